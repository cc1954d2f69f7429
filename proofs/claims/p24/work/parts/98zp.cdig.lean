/-! ## Pure: the checksum of the class -/
def itN (s : Nat → Int64 → Int64) : Nat → Int64 → Int64
  | 0, d => d
  | n + 1, d => s n (itN s n d)
def dg1 (v : Nat → Int32) (n : Nat) (d : Int64) : Int64 := itN (fun j d => d * (31 : Int64) + Int32.toInt64 (v j)) n d
theorem itN_s {s : Nat → Int64 → Int64} {n : Nat} {d : Int64} : itN s (n + 1) d = s n (itN s n d) := rfl
theorem dg1_s {v : Nat → Int32} {j : Nat} {d : Int64} : dg1 v j d * (31 : Int64) + Int32.toInt64 (v j) = dg1 v (j + 1) d := rfl
noncomputable def dgG (A : Nat → Nat → Int32) (F g : Nat) (d : Int64) : Int64 := dg1 (fun f => A (35 + 2 * f) g) F (dg1 (gvA A g) 9 d)
noncomputable def dgV (A : Nat → Nat → Int32) (F G np n : Nat) : Int64 :=
  dg1 (fun j => nI (ltA F (A 0 1) j)) F (itN (fun p d => dg1 (pvA A p) 7 d) np (itN (fun f d => dg1 (fvA A f) 10 d) F (itN (dgG A F) G (dg1 (cvA A F G n) 10 (739 : Int64)))))
theorem c_digest {b o F G np ng n : Nat} {M : gMem} (L : LC o M) (h1 : mT M b = 10) (h2 : mR M b 1 = some o) (h0 : mR M b 0 = some (b + 1)) (t9 : mT M (b + 1) = 9) (hn : mI M (b + 1) 0 = nI n) (W : WS (cutF 86 o M) F G np ng) (c9 : ∀ f, f < F → cutF 86 o M (34 + 2 * f) 9 = 0 ∨ cutF 86 o M (34 + 2 * f) 9 = 1) : ∃ A', f_X11_digest M b = some (dgV (cutF 86 o M) F G np n, sC o A' M) ∧ nz A' = nz (cutF 86 o M) := by
  have hF : F ≤ 8 := W.2.2.2.1
  have hG : G ≤ 8 := W.2.1
  have hp6 : np ≤ 6 := W.2.2.2.2.1.2.1
  have h3 : mT M o = 7 := lTo L
  have A0 : mI M o = cutF 86 o M 0 := (cutF_e (n := 86) (d := 0) (by omega)).symm
  have g2 : mI M o 2 = nI G := by rw [A0]; exact W.1
  have g3 : mI M o 3 = nI F := by rw [A0]; exact W.2.2.1
  have g5 : mI M o 5 = nI np := by rw [A0]; exact W.2.2.2.2.1.1
  obtain ⟨A', dr1, nzA, lt1⟩ := s7_draw (M := M) L W.2.2.1 hF
  rw [sC_cut] at dr1
  refine ⟨A', ?_, nzA⟩
  have f3 : mI (sC o A' M) o 3 = nI F := by
    rw [sC_I0, ← W.2.2.1]
    exact congrFun (nz_rows nzA 0 (by omega)) 3
  have l227 : ∀ d, lp_X11_digest_227 (sC o A' M) b d (nI 0) = some (dg1 (fun j => nI (ltA F (cutF 86 o M 0 1) j)) F d, sC o A' M) := fun d => by
    unfold lp_X11_digest_227
    refine lp_seq (f := fun (q : gMem × Int64 × Int32) => bb_X11_digest_227 q.1 b q.2.1 q.2.2) (fun j => (sC o A' M, dg1 (fun j => nI (ltA F (cutF 86 o M 0 1) j)) j d, nI j)) 0 F (Nat.zero_le _) (fun j _ hj => ?_) ?_
    · show bb_X11_digest_227 (sC o A' M) b _ (nI j) = _
      have q1 : ¬ nI F ≤ nI j := fun q => by have := (nI_leI (by omega) (by omega)).mp q; omega
      have i8 : inb (nI j) 8 := (inbN (by omega)).mpr (by omega)
      unfold bb_X11_digest_227
      rw [ck_t (show mT (sC o A' M) b = 10 from h1), dr_s (show mR (sC o A' M) b 1 = some o from h2), ck_t (show mT (sC o A' M) o = 7 from h3), f3, if_neg q1, dr_s (show mR (sC o A' M) o 11 = some (o + 9) from cR0_11 L), ck_t (show mT (sC o A' M) (o + 9) = 20 from cT9 L), show mL (sC o A' M) (o + 9) = 8 from cL9 L, ck_t i8, nI_clamp (by omega), sC_I (by omega), lt1 j hj, nI_1]
      exact congrArg (fun z => some (Sum.inl (sC o A' M, z, nI (j + 1)))) dg1_s
    · show bb_X11_digest_227 (sC o A' M) b _ (nI F) = _
      unfold bb_X11_digest_227
      rw [ck_t (show mT (sC o A' M) b = 10 from h1), dr_s (show mR (sC o A' M) b 1 = some o from h2), ck_t (show mT (sC o A' M) o = 7 from h3), f3, if_pos (nI_le (Nat.le_refl _) (by omega))]
      rfl
  have l183 : ∀ p d, p < np → lp_X11_digest_183 M b d (nI p) (nI 0) = some (.inl (M, dg1 (pvA (cutF 86 o M) p) 7 d, nI (p + 1))) := fun p d hp => by
    unfold lp_X11_digest_183
    refine lp_seq (f := fun (q : gMem × Int64 × Int32) => bb_X11_digest_183 q.1 b q.2.1 (nI p) q.2.2) (fun j => (M, dg1 (pvA (cutF 86 o M) p) j d, nI j)) 0 7 (Nat.zero_le _) (fun j _ hj => ?_) ?_
    · show bb_X11_digest_183 M b _ (nI p) (nI j) = _
      have q1 : ¬ (6 : Int32) < nI j := fun q => by have := (nI_ltI (a := 6) (by omega) (by omega)).mp q; omega
      unfold bb_X11_digest_183
      rw [if_neg q1, ck_t h1, bd_s (c_pvn L h1 h2 g5 hp6 hp hj), nI_1]
      exact congrArg (fun z => some (Sum.inl (M, z, nI (j + 1)))) dg1_s
    · show bb_X11_digest_183 M b _ (nI p) (nI 7) = _
      unfold bb_X11_digest_183
      rw [if_pos (by decide), nI_1]
      rfl
  have l169 : ∀ d, lp_X11_digest_169 M b d (nI 0) = some (dg1 (fun j => nI (ltA F (cutF 86 o M 0 1) j)) F (itN (fun p d => dg1 (pvA (cutF 86 o M) p) 7 d) np d), sC o A' M) := fun d => by
    unfold lp_X11_digest_169
    refine lp_seq (f := fun (q : gMem × Int64 × Int32) => bb_X11_digest_169 q.1 b q.2.1 q.2.2) (fun j => (M, itN (fun p d => dg1 (pvA (cutF 86 o M) p) 7 d) j d, nI j)) 0 np (Nat.zero_le _) (fun j _ hj => ?_) ?_
    · show bb_X11_digest_169 M b _ (nI j) = _
      have q1 : ¬ nI np ≤ nI j := fun q => by have := (nI_leI (by omega) (by omega)).mp q; omega
      unfold bb_X11_digest_169
      rw [ck_t h1, dr_s h2, ck_t h3, g5, if_neg q1, show (0 : Int32) = nI 0 from rfl, l183 j _ hj]
      show _ = some (Sum.inl (M, itN (fun p d => dg1 (pvA (cutF 86 o M) p) 7 d) (j + 1) d, nI (j + 1)))
      rw [itN_s]
    · show bb_X11_digest_169 M b _ (nI np) = _
      unfold bb_X11_digest_169
      rw [ck_t h1, dr_s h2, ck_t h3, g5, if_pos (nI_le (Nat.le_refl _) (by omega)), bd_s dr1, show (0 : Int32) = nI 0 from rfl, l227]
      rfl
  have l133 : ∀ f d, f < F → lp_X11_digest_133 M b d (nI f) (nI 0) = some (.inl (M, dg1 (fvA (cutF 86 o M) f) 10 d, nI (f + 1))) := fun f d hf => by
    unfold lp_X11_digest_133
    refine lp_seq (f := fun (q : gMem × Int64 × Int32) => bb_X11_digest_133 q.1 b q.2.1 (nI f) q.2.2) (fun j => (M, dg1 (fvA (cutF 86 o M) f) j d, nI j)) 0 10 (Nat.zero_le _) (fun j _ hj => ?_) ?_
    · show bb_X11_digest_133 M b _ (nI f) (nI j) = _
      have q1 : ¬ (9 : Int32) < nI j := fun q => by have := (nI_ltI (a := 9) (by omega) (by omega)).mp q; omega
      unfold bb_X11_digest_133
      rw [if_neg q1, ck_t h1, bd_s (c_fvn L h1 h2 g3 hF hf hj (c9 f hf)), nI_1]
      exact congrArg (fun z => some (Sum.inl (M, z, nI (j + 1)))) dg1_s
    · show bb_X11_digest_133 M b _ (nI f) (nI 10) = _
      unfold bb_X11_digest_133
      rw [if_pos (by decide), nI_1]
      rfl
  have l119 : ∀ d, lp_X11_digest_119 M b d (nI 0) = some (dg1 (fun j => nI (ltA F (cutF 86 o M 0 1) j)) F (itN (fun p d => dg1 (pvA (cutF 86 o M) p) 7 d) np (itN (fun f d => dg1 (fvA (cutF 86 o M) f) 10 d) F d)), sC o A' M) := fun d => by
    unfold lp_X11_digest_119
    refine lp_seq (f := fun (q : gMem × Int64 × Int32) => bb_X11_digest_119 q.1 b q.2.1 q.2.2) (fun j => (M, itN (fun f d => dg1 (fvA (cutF 86 o M) f) 10 d) j d, nI j)) 0 F (Nat.zero_le _) (fun j _ hj => ?_) ?_
    · show bb_X11_digest_119 M b _ (nI j) = _
      have q1 : ¬ nI F ≤ nI j := fun q => by have := (nI_leI (by omega) (by omega)).mp q; omega
      unfold bb_X11_digest_119
      rw [ck_t h1, dr_s h2, ck_t h3, g3, if_neg q1, show (0 : Int32) = nI 0 from rfl, l133 j _ hj]
      show _ = some (Sum.inl (M, itN (fun f d => dg1 (fvA (cutF 86 o M) f) 10 d) (j + 1) d, nI (j + 1)))
      rw [itN_s]
    · show bb_X11_digest_119 M b _ (nI F) = _
      unfold bb_X11_digest_119
      rw [ck_t h1, dr_s h2, ck_t h3, g3, if_pos (nI_le (Nat.le_refl _) (by omega)), show (0 : Int32) = nI 0 from rfl, l169]
      rfl
  have l78 : ∀ g d, g < G → lp_X11_digest_78 M b d (nI g) (nI 0) = some (.inl (M, dg1 (fun f => cutF 86 o M (35 + 2 * f) g) F d, nI (g + 1))) := fun g d hg => by
    unfold lp_X11_digest_78
    refine lp_seq (f := fun (q : gMem × Int64 × Int32) => bb_X11_digest_78 q.1 b q.2.1 (nI g) q.2.2) (fun j => (M, dg1 (fun f => cutF 86 o M (35 + 2 * f) g) j d, nI j)) 0 F (Nat.zero_le _) (fun j _ hj => ?_) ?_
    · show bb_X11_digest_78 M b _ (nI g) (nI j) = _
      have q1 : ¬ nI F ≤ nI j := fun q => by have := (nI_leI (by omega) (by omega)).mp q; omega
      unfold bb_X11_digest_78
      rw [ck_t h1, dr_s h2, ck_t h3, g3, if_neg q1, bd_s (c_tkn L h1 h2 g2 g3 hG hF hg hj), nI_1]
      exact congrArg (fun z => some (Sum.inl (M, z, nI (j + 1)))) dg1_s
    · show bb_X11_digest_78 M b _ (nI g) (nI F) = _
      unfold bb_X11_digest_78
      rw [ck_t h1, dr_s h2, ck_t h3, g3, if_pos (nI_le (Nat.le_refl _) (by omega)), nI_1]
      rfl
  have l47 : ∀ g d, g < G → lp_X11_digest_47 M b d (nI g) (nI 0) = some (.inl (M, dgG (cutF 86 o M) F g d, nI (g + 1))) := fun g d hg => by
    unfold lp_X11_digest_47
    refine lp_seq (f := fun (q : gMem × Int64 × Int32) => bb_X11_digest_47 q.1 b q.2.1 (nI g) q.2.2) (fun j => (M, dg1 (gvA (cutF 86 o M) g) j d, nI j)) 0 9 (Nat.zero_le _) (fun j _ hj => ?_) ?_
    · show bb_X11_digest_47 M b _ (nI g) (nI j) = _
      have q1 : ¬ (8 : Int32) < nI j := fun q => by have := (nI_ltI (a := 8) (by omega) (by omega)).mp q; omega
      unfold bb_X11_digest_47
      rw [if_neg q1, ck_t h1, bd_s (c_gvn L h1 h2 g2 hG hg hj), nI_1]
      exact congrArg (fun z => some (Sum.inl (M, z, nI (j + 1)))) dg1_s
    · show bb_X11_digest_47 M b _ (nI g) (nI 9) = _
      unfold bb_X11_digest_47
      rw [if_pos (by decide), show (0 : Int32) = nI 0 from rfl, l78 g _ hg]
      rfl
  have l33 : ∀ d, lp_X11_digest_33 M b d (nI 0) = some (dg1 (fun j => nI (ltA F (cutF 86 o M 0 1) j)) F (itN (fun p d => dg1 (pvA (cutF 86 o M) p) 7 d) np (itN (fun f d => dg1 (fvA (cutF 86 o M) f) 10 d) F (itN (dgG (cutF 86 o M) F) G d))), sC o A' M) := fun d => by
    unfold lp_X11_digest_33
    refine lp_seq (f := fun (q : gMem × Int64 × Int32) => bb_X11_digest_33 q.1 b q.2.1 q.2.2) (fun j => (M, itN (dgG (cutF 86 o M) F) j d, nI j)) 0 G (Nat.zero_le _) (fun j _ hj => ?_) ?_
    · show bb_X11_digest_33 M b _ (nI j) = _
      have q1 : ¬ nI G ≤ nI j := fun q => by have := (nI_leI (by omega) (by omega)).mp q; omega
      unfold bb_X11_digest_33
      rw [ck_t h1, dr_s h2, ck_t h3, g2, if_neg q1, show (0 : Int32) = nI 0 from rfl, l47 j _ hj]
      show _ = some (Sum.inl (M, itN (dgG (cutF 86 o M) F) (j + 1) d, nI (j + 1)))
      rw [itN_s]
    · show bb_X11_digest_33 M b _ (nI G) = _
      unfold bb_X11_digest_33
      rw [ck_t h1, dr_s h2, ck_t h3, g2, if_pos (nI_le (Nat.le_refl _) (by omega)), show (0 : Int32) = nI 0 from rfl, l119]
      rfl
  unfold f_X11_digest b_X11_digest_0 lp_X11_digest_6
  refine lp_seq (f := fun (q : gMem × Int64 × Int32) => bb_X11_digest_6 q.1 b q.2.1 q.2.2) (fun j => (M, dg1 (cvA (cutF 86 o M) F G n) j (739 : Int64), nI j)) 0 10 (Nat.zero_le _) (fun j _ hj => ?_) ?_
  · show bb_X11_digest_6 M b _ (nI j) = _
    have q1 : ¬ (9 : Int32) < nI j := fun q => by have := (nI_ltI (a := 9) (by omega) (by omega)).mp q; omega
    unfold bb_X11_digest_6
    rw [if_neg q1, ck_t h1, bd_s (c_cvn L h1 h2 h0 t9 hn W.1 W.2.2.1 hG hF hj), nI_1]
    exact congrArg (fun z => some (Sum.inl (M, z, nI (j + 1)))) dg1_s
  · show bb_X11_digest_6 M b _ (nI 10) = _
    unfold bb_X11_digest_6
    rw [if_pos (by decide), show (0 : Int32) = nI 0 from rfl, l33]
    rfl

