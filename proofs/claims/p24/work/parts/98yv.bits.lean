/-! ## Pure: the bytes of an int -/
def byN (x : Int32) (s : Nat) : Nat := x.toBitVec.toNat / 2 ^ s % 256
theorem byN_lt (x : Int32) (s : Nat) : byN x s < 256 := Nat.mod_lt _ (by decide)
theorem sB_i {b : Nat} {z : Int32} (hb : b < 256) (h : z.toInt = if b < 128 then (b : Int) else (b : Int) - 256) : z = sB b := by
  apply Int32.toInt_inj.mp
  rw [h]
  exact (by decide +kernel : ∀ b : Nat, b < 256 → (if b < 128 then (b : Int) else (b : Int) - 256) = (sB b).toInt) b hb
theorem nar_i (y : Int32) : (vp_nar .byte (i2bV y)).toInt = y.toInt.bmod 256 := by
  show (y.toInt8.toInt32.toInt8.toInt32).toInt = _
  rw [Int8.toInt_toInt32, Int32.toInt_toInt8, Int8.toInt_toInt32, Int32.toInt_toInt8]
  exact Int.bmod_bmod
theorem cl_byte {x : Int32} {s : Nat} (hs : s = 0 ∨ s = 8 ∨ s = 16 ∨ s = 24) : vp_nar .byte (i2bV (ushr x (nI s))) = sB (byN x s) := by
  refine sB_i (byN_lt x s) ?_
  rw [nar_i]
  have e : (ushr x (nI s)).toBitVec.toNat = x.toBitVec.toNat / 2 ^ s := by
    unfold ushr
    rcases hs with h | h | h | h <;> subst h
    · show (x.toBitVec >>> (BitVec.ofNat 32 0)).toNat = _
      rw [BitVec.ushiftRight_eq', BitVec.toNat_ushiftRight, Nat.shiftRight_eq_div_pow]; rfl
    · show (x.toBitVec >>> (BitVec.ofNat 32 8)).toNat = _
      rw [BitVec.ushiftRight_eq', BitVec.toNat_ushiftRight, Nat.shiftRight_eq_div_pow]; rfl
    · show (x.toBitVec >>> (BitVec.ofNat 32 16)).toNat = _
      rw [BitVec.ushiftRight_eq', BitVec.toNat_ushiftRight, Nat.shiftRight_eq_div_pow]; rfl
    · show (x.toBitVec >>> (BitVec.ofNat 32 24)).toNat = _
      rw [BitVec.ushiftRight_eq', BitVec.toNat_ushiftRight, Nat.shiftRight_eq_div_pow]; rfl
  have e2 : (ushr x (nI s)).toInt = ((ushr x (nI s)).toBitVec.toNat : Int).bmod (2 ^ 32) := BitVec.toInt_eq_toNat_bmod _
  rw [e2, e]
  unfold byN
  generalize x.toBitVec.toNat / 2 ^ s = q
  rw [Int.bmod_def, Int.bmod_def]
  split <;> split <;> split <;> omega
theorem md_byte {x : Int32} {s : Nat} (hs : s = 0 ∨ s = 8 ∨ s = 16 ∨ s = 24) : (x >>> (nI s &&& 31)) &&& (255 : Int32) = nI (byN x s) := by
  apply Int32.toBitVec_inj.mp
  have hx := x.toBitVec.isLt
  have key : ∀ s : Nat, s ≤ 24 → x.toBitVec.sshiftRight s &&& 255#32 = BitVec.ofNat 32 (byN x s) := fun s hs => by
    apply BitVec.eq_of_getLsbD_eq
    intro i hi
    have r : (BitVec.ofNat 32 (byN x s)).getLsbD i = (decide (i < 8) && x.toBitVec.getLsbD (s + i)) := by
      rw [BitVec.getLsbD_ofNat]
      unfold byN
      rw [show (256 : Nat) = 2 ^ 8 from rfl, Nat.testBit_mod_two_pow, ← Nat.shiftRight_eq_div_pow, Nat.testBit_shiftRight]
      simp [hi, BitVec.getLsbD]
    rw [r, BitVec.getLsbD_and, BitVec.getLsbD_sshiftRight]
    by_cases h8 : i < 8
    · have a : (255#32).getLsbD i = true := (by decide : ∀ i, i < 8 → (255#32).getLsbD i = true) i h8
      rw [a]
      simp [h8, show s + i < 32 by omega, show ¬ 32 ≤ i by omega]
    · have a : (255#32).getLsbD i = false := (by decide : ∀ i, i < 32 → 8 ≤ i → (255#32).getLsbD i = false) i hi (by omega)
      rw [a]
      simp [h8]
  rcases hs with h | h | h | h <;> subst h
  · exact key 0 (by omega)
  · exact key 8 (by omega)
  · exact key 16 (by omega)
  · exact key 24 (by omega)

