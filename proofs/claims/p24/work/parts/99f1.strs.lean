/-! ## Pure: a String's length and bytes; five ints out of bytes -/
theorem s_len {Z : Nat → Nat} {s w : Nat} {L : List Nat} {M : gMem} (Q : STR s w L M) : f_J0_length_8abf5_r Z M s = some (nI L.length, M) := by
  obtain ⟨⟨k1, k2, k3⟩, ⟨k4, k5⟩, -, -, -⟩ := Q
  unfold f_J0_length_8abf5_r b_J0_length_8abf5_r_0 f_J0_coder_7d493_r b_J0_coder_7d493_r_0
  rw [ck_t k1, dr_s k2, ck_t k4, ck_t k1, k3, ck_t (by decide), bd_S, sh_r0, k5]
  rfl
theorem i2c_t : ∀ c, c < 128 → (nI c &&& (255 : Int32)) = nI c ∧ i2cV (nI c) = nI c := by decide +kernel
theorem STR_n {s w : Nat} {L : List Nat} {M M' : gMem} (S : STR s w L M) (hs : mT M' s = mT M s ∧ mR M' s = mR M s ∧ mI M' s = mI M s) (hw : mT M' w = mT M w ∧ mL M' w = mL M w ∧ mI M' w = mI M w) (hN : mN M ≤ mN M') : STR s w L M' := by
  obtain ⟨⟨t1, r1, c1⟩, ⟨t2, l1⟩, ⟨o1, o2⟩, hl, b⟩ := S
  exact ⟨⟨hs.1.trans t1, by rw [hs.2.1]; exact r1, by rw [hs.2.2]; exact c1⟩, ⟨hw.1.trans t2, hw.2.1.trans l1⟩, ⟨o1, by omega⟩, hl, fun i hi => by rw [hw.2.2]; exact b i hi⟩
/-- a word that takes a byte in -/
theorem by_0 {w : Int32} {c : Nat} (hc : c < 256) : byN ((w <<< ((8 : Int32) &&& 31)) ||| nI c) 0 = c ∧ byN ((w <<< ((8 : Int32) &&& 31)) ||| nI c) 8 = byN w 0 ∧ byN ((w <<< ((8 : Int32) &&& 31)) ||| nI c) 16 = byN w 8 ∧ byN ((w <<< ((8 : Int32) &&& 31)) ||| nI c) 24 = byN w 16 := by
  have e : ((w <<< ((8 : Int32) &&& 31)) ||| nI c).toBitVec.toNat = w.toBitVec.toNat % 16777216 * 256 + c := by
    have h1 : ((w <<< ((8 : Int32) &&& 31)) ||| nI c).toBitVec = (w.toBitVec <<< 8) ||| (BitVec.ofNat 32 c) := rfl
    rw [h1, BitVec.toNat_or, BitVec.toNat_shiftLeft, BitVec.toNat_ofNat, Nat.shiftLeft_eq]
    have h2 : w.toBitVec.toNat * 2 ^ 8 % 2 ^ 32 = 2 ^ 8 * (w.toBitVec.toNat % 16777216) := by
      show w.toBitVec.toNat * 256 % 4294967296 = 256 * (w.toBitVec.toNat % 16777216)
      omega
    rw [h2, Nat.mod_eq_of_lt (show c < 2 ^ 32 by omega), ← Nat.two_pow_add_eq_or_of_lt (show c < 2 ^ 8 by omega)]
    omega
  have hw := w.toBitVec.isLt
  unfold byN
  rw [e]
  generalize w.toBitVec.toNat = q at *
  refine ⟨?_, ?_, ?_, ?_⟩
  · show (q % 16777216 * 256 + c) / 1 % 256 = c; omega
  · show (q % 16777216 * 256 + c) / 256 % 256 = q / 1 % 256; omega
  · show (q % 16777216 * 256 + c) / 65536 % 256 = q / 256 % 256; omega
  · show (q % 16777216 * 256 + c) / 16777216 % 256 = q / 65536 % 256; omega
theorem LNS_b : ∀ {a : List (List (Nat × Nat × List Nat) × List Nat × List (Nat × Nat))} {t : List Nat} {v : List (Nat × Nat)}, LNS a t v → ∀ c ∈ t, c < 128 := fun {a t v} h c hc => by
  have key : ∀ l : List (Nat × Nat × List Nat), (∀ x ∈ l, okI x) → ∀ c ∈ flT (l.map itI), c < 128 := by
    intro l
    induction l with
    | nil => intro _ c hc; cases hc
    | cons x r ih =>
      intro h c hc
      have hc : c ∈ wdI x.1 x.2.1 ++ (x.2.2 ++ flT (r.map itI)) := hc
      have hx := h x List.mem_cons_self
      rcases List.mem_append.mp hc with q | q
      · exact (wd_P hx).1.2.1 c q
      · rcases List.mem_append.mp q with q | q
        · rcases hx.2 with e | e | e
          · rw [e] at q; cases q
          · rw [e] at q; rw [List.mem_singleton.mp q]; decide
          · rw [e] at q; rw [List.mem_singleton.mp q]; decide
        · exact ih (fun y hy => h y (List.mem_cons_of_mem _ hy)) c q
  have := key (flI a) (LNS_o h)
  rw [LNS_t h] at this
  exact this c hc
theorem s_chr {Z : Nat → Nat} {s w i : Nat} {L : List Nat} {M : gMem} (Q : STR s w L M) (hi : i < L.length) (hb : ∀ c ∈ L, c < 128) : f_J0_charAt_5068e_r Z M s (nI i) = some (nI (L.getD i 0), M) := by
  obtain ⟨⟨k1, k2, k3⟩, ⟨k4, k5⟩, -, k6, k7⟩ := Q
  have c1 : L.getD i 0 < 128 := by
    rw [List.getD_eq_getElem?_getD, List.getElem?_eq_getElem hi]
    exact hb _ (List.getElem_mem hi)
  obtain ⟨i1, i2⟩ := i2c_t _ c1
  have ci : f_J0_checkIndex_df160 Z M (nI i) (Int32.ofNat (mL M w)) = some ((), M) := by
    unfold f_J0_checkIndex_df160 b_J0_checkIndex_df160_0 f_J3_checkIndex_8e157 b_J3_checkIndex_8e157_0
    have q0 : ¬ nI i < 0 := nI_pos (by omega)
    have q2 : nI i < Int32.ofNat (mL M w) := by rw [k5]; exact nI_lt hi (by omega)
    rw [if_neg q0, if_pos q2, bd_S]
  unfold f_J0_charAt_5068e_r b_J0_charAt_5068e_r_0 f_J0_isLatin1_aae02_r b_J0_isLatin1_aae02_r_0 b_J0_isLatin1_aae02_r_18
  rw [ck_t k1, ck_t k1, if_pos k3, ck_t (.inr rfl), bd_S, if_neg (by decide), ck_t k1, k2]
  unfold f_J1_charAt_3b067_r b_J1_charAt_3b067_r_0
  rw [dr_S, ck_t k4, ci, bd_S, ck_t k4, k5, ck_t ((inbN (by omega)).mpr hi), nI_clamp (by omega), (k7 i hi).1, i1, i2, ck_t i2, bd_S, ck_t i2]
