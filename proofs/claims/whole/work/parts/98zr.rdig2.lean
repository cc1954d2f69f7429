/-! ## Pure: the checksum of the reference, its loops -/
theorem ql_232 {m t n F G nO np c : Nat} {A st : Nat → Nat → Int32} {X0 X : gMem} (K : WQa F G nO np A st) (W : WQ m t n F G nO np A st X) (Q : QX m X0 X c) (hc : c ≤ 140) (d : Int64) : ∃ X', lp_X14_digest_232 (mN X0) X m d (nI 0) = some (dg1 (fun j => nI (ltA F (A 0 1) j)) F d, X') ∧ WQ m t n F G nO np A st X' ∧ QX m X0 X' c := by
  have hF := K.1.1
  obtain ⟨a', ⟨X', rfl, W', Q'⟩, e2⟩ := lp_ex (f := fun (q : gMem × Int64 × Int32) => bb_X14_digest_232 (mN X0) q.1 m q.2.1 q.2.2) (fun j a => ∃ X', a = (X', dg1 (fun j => nI (ltA F (A 0 1) j)) j d, nI j) ∧ WQ m t n F G nO np A st X' ∧ QX m X0 X' c) F (fun j a hj hP => by
    obtain ⟨Y, rfl, WY, QY⟩ := hP
    obtain ⟨s, l1⟩ := r_lotOf (f := j) WY K hj
    have q1 : ¬ nI F ≤ nI j := fun q => by have := (nI_leI (by omega) (by omega)).mp q; omega
    refine ⟨_, ?_, bC 17 (m + 41) s Y, rfl, WQ_l WY, QX_l QY⟩
    show bb_X14_digest_232 (mN X0) Y m _ (nI j) = _
    unfold bb_X14_digest_232
    rw [ck_t WY.1.1.1.2.2.1, dr_s WY.1.1.1.2.2.2.1, ck_t WY.1.1.1.2.2.2.2, WY.2.2.1.2.1, if_neg q1, ck_t (show mN Y + 0 ≤ mN X0 + 140 by have := QY.1; omega), bd_s l1, ck_t (show mN (bC 17 (m + 41) s Y) = mN Y + 0 from rfl), nI_1]
    exact congrArg (fun z => some (Sum.inl (bC 17 (m + 41) s Y, z, nI (j + 1)))) dg1_s) F 0 (X, d, nI 0) (by omega) ⟨X, rfl, W, Q⟩
  refine ⟨X', ?_, W', Q'⟩
  show lp (fun (q : gMem × Int64 × Int32) => bb_X14_digest_232 (mN X0) q.1 m q.2.1 q.2.2) (X, d, nI 0) = _
  rw [e2]
  refine lp_out ?_
  show bb_X14_digest_232 (mN X0) X' m _ (nI F) = _
  unfold bb_X14_digest_232
  rw [ck_t W'.1.1.1.2.2.1, dr_s W'.1.1.1.2.2.2.1, ck_t W'.1.1.1.2.2.2.2, W'.2.2.1.2.1, if_pos (nI_le (Nat.le_refl _) (by omega)), ck_t (show mN X' ≤ mN X0 + 140 by have := Q'.1; omega)]
  rfl
theorem ql_196 {m t n F G nO np c p : Nat} {A st : Nat → Nat → Int32} {X0 X : gMem} (K : WQa F G nO np A st) (W : WQ m t n F G nO np A st X) (Q : QX m X0 X c) (hc : c + 7 ≤ 140) (hp : p < np) (d : Int64) : ∃ X', lp_X14_digest_196 (mN X0) X m d (nI p) (nI 0) = some (.inl (X', dg1 (pvA A p) 7 d, nI (p + 1))) ∧ WQ m t n F G nO np A st X' ∧ QX m X0 X' (c + 7) := by
  obtain ⟨a', ⟨X', rfl, W', Q'⟩, e2⟩ := lp_ex (f := fun (q : gMem × Int64 × Int32) => bb_X14_digest_196 (mN X0) q.1 m q.2.1 (nI p) q.2.2) (fun j a => ∃ X', a = (X', dg1 (pvA A p) j d, nI j) ∧ WQ m t n F G nO np A st X' ∧ QX m X0 X' (c + j)) 7 (fun j a hj hP => by
    obtain ⟨Y, rfl, WY, QY⟩ := hP
    obtain ⟨vs, l1⟩ := WQ_pv (p := p) (c := j) WY K hp hj
    have q1 : ¬ (6 : Int32) < nI j := fun q => by have := (nI_ltI (a := 6) (by omega) (by omega)).mp q; omega
    refine ⟨_, ?_, aN Y 7 vs 7, rfl, WQ_a WY, QX_a QY⟩
    show bb_X14_digest_196 (mN X0) Y m _ (nI p) (nI j) = _
    unfold bb_X14_digest_196
    rw [if_neg q1, ck_t WY.1.1.1.2.2.1, ck_t (show mN Y + 1 ≤ mN X0 + 140 by have := QY.1; omega), bd_s l1, ck_t (show mN (aN Y 7 vs 7) = mN Y + 1 from (aN_f 7).2.2.2.1), nI_1]
    exact congrArg (fun z => some (Sum.inl (aN Y 7 vs 7, z, nI (j + 1)))) dg1_s) 7 0 (X, d, nI 0) (by omega) ⟨X, rfl, W, Q⟩
  refine ⟨X', ?_, W', Q'⟩
  show lp (fun (q : gMem × Int64 × Int32) => bb_X14_digest_196 (mN X0) q.1 m q.2.1 (nI p) q.2.2) (X, d, nI 0) = _
  rw [e2]
  refine lp_out ?_
  show bb_X14_digest_196 (mN X0) X' m _ (nI p) (nI 7) = _
  unfold bb_X14_digest_196
  rw [if_pos (by decide), nI_1]
  rfl
theorem ql_182 {m t n F G nO np c : Nat} {A st : Nat → Nat → Int32} {X0 X : gMem} (K : WQa F G nO np A st) (W : WQ m t n F G nO np A st X) (Q : QX m X0 X c) (hc : c + 7 * np ≤ 140) (d : Int64) : ∃ X', lp_X14_digest_182 (mN X0) X m d (nI 0) = some (dg1 (fun j => nI (ltA F (A 0 1) j)) F (itN (fun p d => dg1 (pvA A p) 7 d) np d), X') ∧ WQ m t n F G nO np A st X' ∧ QX m X0 X' (c + 7 * np) := by
  have hp6 := K.1.2.2
  obtain ⟨a', ⟨X', rfl, W', Q'⟩, e2⟩ := lp_ex (f := fun (q : gMem × Int64 × Int32) => bb_X14_digest_182 (mN X0) q.1 m q.2.1 q.2.2) (fun j a => ∃ X', a = (X', itN (fun p d => dg1 (pvA A p) 7 d) j d, nI j) ∧ WQ m t n F G nO np A st X' ∧ QX m X0 X' (c + 7 * j)) np (fun j a hj hP => by
    obtain ⟨Y, rfl, WY, QY⟩ := hP
    obtain ⟨Y', l1, WY', QY'⟩ := ql_196 (p := j) K WY QY (by omega) hj (itN (fun p d => dg1 (pvA A p) 7 d) j d)
    have q1 : ¬ nI np ≤ nI j := fun q => by have := (nI_leI (by omega) (by omega)).mp q; omega
    refine ⟨(Y', itN (fun p d => dg1 (pvA A p) 7 d) (j + 1) d, nI (j + 1)), ?_, Y', rfl, WY', by rw [show c + 7 * (j + 1) = c + 7 * j + 7 by omega]; exact QY'⟩
    show bb_X14_digest_182 (mN X0) Y m _ (nI j) = _
    unfold bb_X14_digest_182
    rw [ck_t WY.1.1.1.2.2.1, dr_s WY.1.1.1.2.2.2.1, ck_t WY.1.1.1.2.2.2.2, WY.2.2.1.2.2.2, if_neg q1, show (0 : Int32) = nI 0 from rfl, l1, itN_s]) np 0 (X, d, nI 0) (by omega) ⟨X, rfl, W, Q⟩
  obtain ⟨X2, l2, W2, Q2⟩ := ql_232 K W' Q' hc (itN (fun p d => dg1 (pvA A p) 7 d) np d)
  refine ⟨X2, ?_, W2, Q2⟩
  show lp (fun (q : gMem × Int64 × Int32) => bb_X14_digest_182 (mN X0) q.1 m q.2.1 q.2.2) (X, d, nI 0) = _
  rw [e2]
  refine lp_out ?_
  show bb_X14_digest_182 (mN X0) X' m _ (nI np) = _
  unfold bb_X14_digest_182
  rw [ck_t W'.1.1.1.2.2.1, dr_s W'.1.1.1.2.2.2.1, ck_t W'.1.1.1.2.2.2.2, W'.2.2.1.2.2.2, if_pos (nI_le (Nat.le_refl _) (by omega)), show (0 : Int32) = nI 0 from rfl, l2]
  rfl
theorem ql_146 {m t n F G nO np c p : Nat} {A st : Nat → Nat → Int32} {X0 X : gMem} (K : WQa F G nO np A st) (W : WQ m t n F G nO np A st X) (Q : QX m X0 X c) (hc : c + 10 ≤ 140) (hp : p < F) (d : Int64) : ∃ X', lp_X14_digest_146 (mN X0) X m d (nI p) (nI 0) = some (.inl (X', dg1 (fvA A p) 10 d, nI (p + 1))) ∧ WQ m t n F G nO np A st X' ∧ QX m X0 X' (c + 10) := by
  obtain ⟨a', ⟨X', rfl, W', Q'⟩, e2⟩ := lp_ex (f := fun (q : gMem × Int64 × Int32) => bb_X14_digest_146 (mN X0) q.1 m q.2.1 (nI p) q.2.2) (fun j a => ∃ X', a = (X', dg1 (fvA A p) j d, nI j) ∧ WQ m t n F G nO np A st X' ∧ QX m X0 X' (c + j)) 10 (fun j a hj hP => by
    obtain ⟨Y, rfl, WY, QY⟩ := hP
    obtain ⟨vs, l1⟩ := WQ_fv (f := p) (c := j) WY K hp hj
    have q1 : ¬ (9 : Int32) < nI j := fun q => by have := (nI_ltI (a := 9) (by omega) (by omega)).mp q; omega
    refine ⟨_, ?_, aN Y 10 vs 10, rfl, WQ_a WY, QX_a QY⟩
    show bb_X14_digest_146 (mN X0) Y m _ (nI p) (nI j) = _
    unfold bb_X14_digest_146
    rw [if_neg q1, ck_t WY.1.1.1.2.2.1, ck_t (show mN Y + 1 ≤ mN X0 + 140 by have := QY.1; omega), bd_s l1, ck_t (show mN (aN Y 10 vs 10) = mN Y + 1 from (aN_f 10).2.2.2.1), nI_1]
    exact congrArg (fun z => some (Sum.inl (aN Y 10 vs 10, z, nI (j + 1)))) dg1_s) 10 0 (X, d, nI 0) (by omega) ⟨X, rfl, W, Q⟩
  refine ⟨X', ?_, W', Q'⟩
  show lp (fun (q : gMem × Int64 × Int32) => bb_X14_digest_146 (mN X0) q.1 m q.2.1 (nI p) q.2.2) (X, d, nI 0) = _
  rw [e2]
  refine lp_out ?_
  show bb_X14_digest_146 (mN X0) X' m _ (nI p) (nI 10) = _
  unfold bb_X14_digest_146
  rw [if_pos (by decide), nI_1]
  rfl
theorem ql_132 {m t n F G nO np c : Nat} {A st : Nat → Nat → Int32} {X0 X : gMem} (K : WQa F G nO np A st) (W : WQ m t n F G nO np A st X) (Q : QX m X0 X c) (hc : c + 10 * F + 7 * np ≤ 140) (d : Int64) : ∃ X', lp_X14_digest_132 (mN X0) X m d (nI 0) = some (dg1 (fun j => nI (ltA F (A 0 1) j)) F (itN (fun p d => dg1 (pvA A p) 7 d) np (itN (fun f d => dg1 (fvA A f) 10 d) F d)), X') ∧ WQ m t n F G nO np A st X' ∧ QX m X0 X' (c + 10 * F + 7 * np) := by
  have hF := K.1.1
  obtain ⟨a', ⟨X', rfl, W', Q'⟩, e2⟩ := lp_ex (f := fun (q : gMem × Int64 × Int32) => bb_X14_digest_132 (mN X0) q.1 m q.2.1 q.2.2) (fun j a => ∃ X', a = (X', itN (fun f d => dg1 (fvA A f) 10 d) j d, nI j) ∧ WQ m t n F G nO np A st X' ∧ QX m X0 X' (c + 10 * j)) F (fun j a hj hP => by
    obtain ⟨Y, rfl, WY, QY⟩ := hP
    obtain ⟨Y', l1, WY', QY'⟩ := ql_146 (p := j) K WY QY (by omega) hj (itN (fun f d => dg1 (fvA A f) 10 d) j d)
    have q1 : ¬ nI F ≤ nI j := fun q => by have := (nI_leI (by omega) (by omega)).mp q; omega
    refine ⟨(Y', itN (fun f d => dg1 (fvA A f) 10 d) (j + 1) d, nI (j + 1)), ?_, Y', rfl, WY', by rw [show c + 10 * (j + 1) = c + 10 * j + 10 by omega]; exact QY'⟩
    show bb_X14_digest_132 (mN X0) Y m _ (nI j) = _
    unfold bb_X14_digest_132
    rw [ck_t WY.1.1.1.2.2.1, dr_s WY.1.1.1.2.2.2.1, ck_t WY.1.1.1.2.2.2.2, WY.2.2.1.2.1, if_neg q1, show (0 : Int32) = nI 0 from rfl, l1, itN_s]) F 0 (X, d, nI 0) (by omega) ⟨X, rfl, W, Q⟩
  obtain ⟨X2, l2, W2, Q2⟩ := ql_182 K W' Q' hc (itN (fun f d => dg1 (fvA A f) 10 d) F d)
  refine ⟨X2, ?_, W2, Q2⟩
  show lp (fun (q : gMem × Int64 × Int32) => bb_X14_digest_132 (mN X0) q.1 m q.2.1 q.2.2) (X, d, nI 0) = _
  rw [e2]
  refine lp_out ?_
  show bb_X14_digest_132 (mN X0) X' m _ (nI F) = _
  unfold bb_X14_digest_132
  rw [ck_t W'.1.1.1.2.2.1, dr_s W'.1.1.1.2.2.2.1, ck_t W'.1.1.1.2.2.2.2, W'.2.2.1.2.1, if_pos (nI_le (Nat.le_refl _) (by omega)), show (0 : Int32) = nI 0 from rfl, l2]
  rfl
theorem ql_83 {m t n F G nO np g : Nat} {A st : Nat → Nat → Int32} {X0 X : gMem} (K : WQa F G nO np A st) (W : WQ m t n F G nO np A st X) (hg : g < G) (d : Int64) : lp_X14_digest_83 (mN X0) X m d (nI g) (nI 0) = some (.inl (X, dg1 (fun f => A (35 + 2 * f) g) F d, nI (g + 1))) := by
  have hF := K.1.1
  have hG := K.1.2.1
  have h3 := W.1.1.2.2.1 3 (by omega) (by omega)
  unfold lp_X14_digest_83
  refine lp_seq (f := fun (q : gMem × Int64 × Int32) => bb_X14_digest_83 (mN X0) q.1 m q.2.1 (nI g) q.2.2) (fun j => (X, dg1 (fun f => A (35 + 2 * f) g) j d, nI j)) 0 F (Nat.zero_le _) (fun j _ hj => ?_) ?_
  · show bb_X14_digest_83 (mN X0) X m _ (nI g) (nI j) = _
    have q1 : ¬ nI F ≤ nI j := fun q => by have := (nI_leI (by omega) (by omega)).mp q; omega
    unfold bb_X14_digest_83
    rw [ck_t W.1.1.1.2.2.1, dr_s W.1.1.1.2.2.2.1, ck_t W.1.1.1.2.2.2.2, W.2.2.1.2.1, if_neg q1, dr_s W.1.2.2.1, ck_t W.1.1.1.1, dr_s h3.2.2, ck_t h3.1, h3.2.1, m8, nI_add, ck_t (show inb (nI (8 * g + j)) (lenS 3) from (inbN (by omega)).mpr (show _ < 64 by omega)), nI_clamp (by omega), W.1.2.2.2.2 3 (by omega), K.2.2.1.2.2.2.1 g j hg hj, nI_1]
    exact congrArg (fun z => some (Sum.inl (X, z, nI (j + 1)))) dg1_s
  · show bb_X14_digest_83 (mN X0) X m _ (nI g) (nI F) = _
    unfold bb_X14_digest_83
    rw [ck_t W.1.1.1.2.2.1, dr_s W.1.1.1.2.2.2.1, ck_t W.1.1.1.2.2.2.2, W.2.2.1.2.1, if_pos (nI_le (Nat.le_refl _) (by omega)), nI_1]
    rfl
theorem ql_52 {m t n F G nO np c g : Nat} {A st : Nat → Nat → Int32} {X0 X : gMem} (K : WQa F G nO np A st) (W : WQ m t n F G nO np A st X) (Q : QX m X0 X c) (hc : c ≤ 140) (hg : g < G) (d : Int64) : lp_X14_digest_52 (mN X0) X m d (nI g) (nI 0) = some (.inl (X, dgG A F g d, nI (g + 1))) := by
  have hG := K.1.2.1
  unfold lp_X14_digest_52
  refine lp_seq (f := fun (q : gMem × Int64 × Int32) => bb_X14_digest_52 (mN X0) q.1 m q.2.1 (nI g) q.2.2) (fun j => (X, dg1 (gvA A g) j d, nI j)) 0 9 (Nat.zero_le _) (fun j _ hj => ?_) ?_
  · show bb_X14_digest_52 (mN X0) X m _ (nI g) (nI j) = _
    have q1 : ¬ (8 : Int32) < nI j := fun q => by have := (nI_ltI (a := 8) (by omega) (by omega)).mp q; omega
    unfold bb_X14_digest_52
    rw [if_neg q1, ck_t W.1.1.1.2.2.1, ck_t (show mN X + 0 ≤ mN X0 + 140 by have := Q.1; omega), bd_s (WQ_gv W K hg hj), ck_t (show mN X = mN X + 0 from rfl), nI_1]
    exact congrArg (fun z => some (Sum.inl (X, z, nI (j + 1)))) dg1_s
  · show bb_X14_digest_52 (mN X0) X m _ (nI g) (nI 9) = _
    unfold bb_X14_digest_52
    rw [if_pos (by decide), show (0 : Int32) = nI 0 from rfl, ql_83 K W hg]
    rfl
theorem ql_38 {m t n F G nO np c : Nat} {A st : Nat → Nat → Int32} {X0 X : gMem} (K : WQa F G nO np A st) (W : WQ m t n F G nO np A st X) (Q : QX m X0 X c) (hc : c + 10 * F + 7 * np ≤ 140) (d : Int64) : ∃ X', lp_X14_digest_38 (mN X0) X m d (nI 0) = some (dg1 (fun j => nI (ltA F (A 0 1) j)) F (itN (fun p d => dg1 (pvA A p) 7 d) np (itN (fun f d => dg1 (fvA A f) 10 d) F (itN (dgG A F) G d))), X') ∧ WQ m t n F G nO np A st X' ∧ QX m X0 X' (c + 10 * F + 7 * np) := by
  have hG := K.1.2.1
  obtain ⟨X2, l2, W2, Q2⟩ := ql_132 K W Q hc (itN (dgG A F) G d)
  refine ⟨X2, ?_, W2, Q2⟩
  unfold lp_X14_digest_38
  refine lp_seq (f := fun (q : gMem × Int64 × Int32) => bb_X14_digest_38 (mN X0) q.1 m q.2.1 q.2.2) (fun j => (X, itN (dgG A F) j d, nI j)) 0 G (Nat.zero_le _) (fun j _ hj => ?_) ?_
  · show bb_X14_digest_38 (mN X0) X m _ (nI j) = _
    have q1 : ¬ nI G ≤ nI j := fun q => by have := (nI_leI (by omega) (by omega)).mp q; omega
    unfold bb_X14_digest_38
    rw [ck_t W.1.1.1.2.2.1, dr_s W.1.1.1.2.2.2.1, ck_t W.1.1.1.2.2.2.2, W.2.2.1.1, if_neg q1, show (0 : Int32) = nI 0 from rfl, ql_52 K W Q (by omega) hj]
    show _ = some (Sum.inl (X, itN (dgG A F) (j + 1) d, nI (j + 1)))
    rw [itN_s]
  · show bb_X14_digest_38 (mN X0) X m _ (nI G) = _
    unfold bb_X14_digest_38
    rw [ck_t W.1.1.1.2.2.1, dr_s W.1.1.1.2.2.2.1, ck_t W.1.1.1.2.2.2.2, W.2.2.1.1, if_pos (nI_le (Nat.le_refl _) (by omega)), show (0 : Int32) = nI 0 from rfl, l2]
    rfl
theorem ql_11 {m t n F G nO np : Nat} {A st : Nat → Nat → Int32} {X0 : gMem} (K : WQa F G nO np A st) (W : WQ m t n F G nO np A st X0) : ∃ X', lp_X14_digest_11 (mN X0) X0 m (739 : Int64) (nI 0) = some (dgV A F G np n, X') ∧ WQ m t n F G nO np A st X' ∧ QX m X0 X' (10 + 10 * F + 7 * np) := by
  have hF := K.1.1
  have hp6 := K.1.2.2
  obtain ⟨a', ⟨X', rfl, W', Q'⟩, e2⟩ := lp_ex (f := fun (q : gMem × Int64 × Int32) => bb_X14_digest_11 (mN X0) q.1 m q.2.1 q.2.2) (fun j a => ∃ X', a = (X', dg1 (cvA A F G n) j (739 : Int64), nI j) ∧ WQ m t n F G nO np A st X' ∧ QX m X0 X' (0 + j)) 10 (fun j a hj hP => by
    obtain ⟨Y, rfl, WY, QY⟩ := hP
    obtain ⟨vs, l1⟩ := WQ_cv (c := j) WY K hj
    have q1 : ¬ (9 : Int32) < nI j := fun q => by have := (nI_ltI (a := 9) (by omega) (by omega)).mp q; omega
    refine ⟨_, ?_, aN Y 10 vs 10, rfl, WQ_a WY, QX_a QY⟩
    show bb_X14_digest_11 (mN X0) Y m _ (nI j) = _
    unfold bb_X14_digest_11
    rw [if_neg q1, ck_t WY.1.1.1.2.2.1, ck_t (show mN Y + 1 ≤ mN X0 + 140 by have := QY.1; omega), bd_s l1, ck_t (show mN (aN Y 10 vs 10) = mN Y + 1 from (aN_f 10).2.2.2.1), nI_1]
    exact congrArg (fun z => some (Sum.inl (aN Y 10 vs 10, z, nI (j + 1)))) dg1_s) 10 0 (X0, (739 : Int64), nI 0) (by omega) ⟨X0, rfl, W, QX_0⟩
  obtain ⟨X2, l2, W2, Q2⟩ := ql_38 K W' Q' (by omega) (dg1 (cvA A F G n) 10 (739 : Int64))
  refine ⟨X2, ?_, W2, by rw [show 10 + 10 * F + 7 * np = 0 + 10 + 10 * F + 7 * np by omega]; exact Q2⟩
  show lp (fun (q : gMem × Int64 × Int32) => bb_X14_digest_11 (mN X0) q.1 m q.2.1 q.2.2) (X0, (739 : Int64), nI 0) = _
  rw [e2]
  refine lp_out ?_
  show bb_X14_digest_11 (mN X0) X' m _ (nI 10) = _
  unfold bb_X14_digest_11
  rw [if_pos (by decide), show (0 : Int32) = nI 0 from rfl, l2]
  rfl
