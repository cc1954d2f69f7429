/-! ## Pure: the bytes of an int -/
def byN (x : Int32) (s : Nat) : Nat := x.toBitVec.toNat / 2 ^ s % 256
theorem byN_lt (x : Int32) (s : Nat) : byN x s < 256 := sorry

theorem sB_i {b : Nat} {z : Int32} (hb : b < 256) (h : z.toInt = if b < 128 then (b : Int) else (b : Int) - 256) : z = sB b := sorry

theorem nar_i (y : Int32) : (vp_nar .byte (i2bV y)).toInt = y.toInt.bmod 256 := sorry

theorem cl_byte {x : Int32} {s : Nat} (hs : s = 0 ∨ s = 8 ∨ s = 16 ∨ s = 24) : vp_nar .byte (i2bV (ushr x (nI s))) = sB (byN x s) := sorry

theorem md_byte {x : Int32} {s : Nat} (hs : s = 0 ∨ s = 8 ∨ s = 16 ∨ s = 24) : (x >>> (nI s &&& 31)) &&& (255 : Int32) = nI (byN x s) := sorry
