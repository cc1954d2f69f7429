/-! ## Pure: the reference's sums and products -/
theorem M_isSum {g vs : Nat → Nat} {K m t : Nat} {M0 : gMem} (W : MWd g K m t M0) {n : Nat} {F : Nat → gMem → Nat → Option (Int32 × gMem)} (IH : ∀ j k d M, j < 7 → j ≠ 3 → mQk m t d M0 M k → k ≤ K → d ≤ 8 → MRl vs m t d M0 M (Px g n j k d) (F (if j < 3 then j else j - 1) M m)) {k d : Nat} {M : gMem} (Q : mQk m t d M0 M k) (hk : k ≤ K) (hd : d ≤ 8) : MRl vs m t d M0 M (sq (Px g n 5 k d) (lpS g 31 32 (fun k => Px g n 5 k d) 401)) (fr_X14_isSum F M m) := by
  have ht := W.1.2.2
  have hK := W.2.2.2.1
  have H := W.2.2.2.2
  have t13 : ∀ X, MI m t M0 X → mT X m = 13 := fun X CX => (MI_B W.1 CX).1.1
  have fp := fun e he => (FP_Px H n 5 e d he).1 (by decide)
  unfold fr_X14_isSum b_X14_isSum_0 lp_X14_isSum_9
  rw [ck_t (t13 _ Q.1)]
  refine MR_sq ht (IH 5 k d M (by decide) (by decide) Q hk hd) (fun es M1 e he C1 h9 h10 hs => ?_)
  have fe := FP_e (fp k hk) he
  have wp := WP_P es e he
  obtain ⟨Q1, -⟩ := MQ_nx (vs := vs) (j := 0) ht Q (by omega) (by omega) (by omega) (AC_Px W.2.2.1 n 5 k d es e he) C1 h9 h10 hs
  refine MR_lp (a := 31) (b := 32) (BB := fun M => bb_X14_isSum_9 F M m) W (by decide) (by decide) fp (fun e => WP_P) (fun e => AC_Px W.2.2.1 n 5 e d) (fun M k Q hk hg => ?_) (fun M k Q hk hg => ?_) 401 e M1 Q1 fe.1
  · have hk1 := H k hk (by omega)
    have ia := (mk_s (g k) (W.2.2.1 k)).2.2.2.2.2.2.1
    have ib := (mk_s (g k) (W.2.2.1 k)).2.2.2.2.2.2.2.1
    have ih := IH 5 (k + 1) d (tk' m (k + 1) M) (by decide) (by decide) (mQk_tk ht Q) hk1 hd
    have fp1 := fp (k + 1) hk1
    have wp1 := WP_P (g := g) (n := n) (j := 5) (k := k + 1) (d := d)
    have ac1 := AC_Px W.2.2.1 n 5 (k + 1) d
    have e1 : bb_X14_isSum_9 F M m = b_X14_isSum_43 F M m (nI (opc (g k))) := by
      unfold bb_X14_isSum_9 b_X14_isSum_27
      rw [ck_t (t13 _ Q.1), show (43 : Int32) = nI 43 from rfl, M_isSign W Q.1 Q.2.1 hk (by decide)]
      by_cases c : g k = 31
      · rw [if_pos (ia.mpr c), bd_S, if_neg (by decide), ck_t (t13 _ Q.1), M_isSign W Q.1 Q.2.1 hk (by decide), if_pos (ia.mpr c), bd_S, if_neg (by decide), c]
        rfl
      · have c2 : g k = 32 := hg.resolve_left c
        rw [if_neg (fun z => c (ia.mp z)), bd_S, if_pos rfl, ck_t (t13 _ Q.1), show (45 : Int32) = nI 45 from rfl, M_isSign W Q.1 Q.2.1 hk (by decide), if_pos (ib.mpr c2), bd_S, if_neg (by decide), ck_t (t13 _ Q.1), M_isSign W Q.1 Q.2.1 hk (by decide), if_neg (fun z => c (ia.mp z)), bd_S, if_pos rfl, c2]
        rfl
    show match Px g n 5 (k + 1) d with
      | none => True
      | some (none, e) => ∃ M1, bb_X14_isSum_9 F M m = some (.inr ((0 : Int32), M1)) ∧ MI m t M0 M1 ∧ mI M1 m 9 = nI e
      | some (some es, e) => ∃ M1, bb_X14_isSum_9 F M m = some (.inl (puM t (nI (opc (g k))) M1)) ∧ MI m t M0 M1 ∧ mI M1 m 9 = nI e ∧ mI M1 m 10 = nI d ∧ si2 m M1 (mrn vs m t es M)
    rw [e1]
    unfold b_X14_isSum_43
    rw [ck_t (t13 _ Q.1), Q.2.1, nI_1, lw_S]
    match Px g n 5 (k + 1) d, ih, fp1, wp1, ac1 with
    | none, _, _, _, _ => trivial
    | some (none, e), ⟨M2, k1, k2, k3⟩, _, _, _ =>
      have k1 : F 4 (wI M m 9 (nI (k + 1))) m = some ((0 : Int32), M2) := k1
      exact ⟨M2, by rw [k1, bd_S, if_pos rfl]; rfl, k2, k3⟩
    | some (some es, e), ⟨M2, k1, k2, k3, k4, k5⟩, fp1, wp1, ac1 =>
      have k1 : F 4 (wI M m 9 (nI (k + 1))) m = some ((1 : Int32), M2) := k1
      have w1 := wp1 es e rfl
      have hs2 := si2_tr k5 (si2_rn ht es si2_tk)
      obtain ⟨-, L, l1, l2⟩ := MQ_nx (vs := vs) (j := 2) ht Q (by have := fp1.1; omega) (by omega) (by omega) (ac1 es e rfl) k2 k3 k4 hs2
      exact ⟨M2, by rw [k1, bd_S, if_neg (by decide), ck_t (t13 _ k2), M_put W k2 l2 (by have := fp1.1; omega), bd_S], k2, k3, k4, hs2⟩
  · have ia := (mk_s (g k) (W.2.2.1 k)).2.2.2.2.2.2.1
    have ib := (mk_s (g k) (W.2.2.1 k)).2.2.2.2.2.2.2.1
    show bb_X14_isSum_9 F M m = _
    unfold bb_X14_isSum_9
    rw [ck_t (t13 _ Q.1), show (43 : Int32) = nI 43 from rfl, M_isSign W Q.1 Q.2.1 hk (by decide), if_neg (fun z => hg (.inl (ia.mp z))), bd_S, if_pos rfl, ck_t (t13 _ Q.1), show (45 : Int32) = nI 45 from rfl, M_isSign W Q.1 Q.2.1 hk (by decide), if_neg (fun z => hg (.inr (ib.mp z))), bd_S, if_pos rfl]
    rfl
theorem M_isProduct {g vs : Nat → Nat} {K m t : Nat} {M0 : gMem} (W : MWd g K m t M0) {n : Nat} {F : Nat → gMem → Nat → Option (Int32 × gMem)} (IH : ∀ j k d M, j < 7 → j ≠ 3 → mQk m t d M0 M k → k ≤ K → d ≤ 8 → MRl vs m t d M0 M (Px g n j k d) (F (if j < 3 then j else j - 1) M m)) {k d : Nat} {M : gMem} (Q : mQk m t d M0 M k) (hk : k ≤ K) (hd : d ≤ 8) : MRl vs m t d M0 M (sq (Px g n 6 k d) (lpS g 33 34 (fun k => Px g n 6 k d) 401)) (fr_X14_isProduct F M m) := by
  have ht := W.1.2.2
  have hK := W.2.2.2.1
  have H := W.2.2.2.2
  have t13 : ∀ X, MI m t M0 X → mT X m = 13 := fun X CX => (MI_B W.1 CX).1.1
  have fp := fun e he => (FP_Px H n 6 e d he).1 (by decide)
  unfold fr_X14_isProduct b_X14_isProduct_0 lp_X14_isProduct_9
  rw [ck_t (t13 _ Q.1)]
  refine MR_sq ht (IH 6 k d M (by decide) (by decide) Q hk hd) (fun es M1 e he C1 h9 h10 hs => ?_)
  have fe := FP_e (fp k hk) he
  have wp := WP_P es e he
  obtain ⟨Q1, -⟩ := MQ_nx (vs := vs) (j := 0) ht Q (by omega) (by omega) (by omega) (AC_Px W.2.2.1 n 6 k d es e he) C1 h9 h10 hs
  refine MR_lp (a := 33) (b := 34) (BB := fun M => bb_X14_isProduct_9 F M m) W (by decide) (by decide) fp (fun e => WP_P) (fun e => AC_Px W.2.2.1 n 6 e d) (fun M k Q hk hg => ?_) (fun M k Q hk hg => ?_) 401 e M1 Q1 fe.1
  · have hk1 := H k hk (by omega)
    have ia := (mk_s (g k) (W.2.2.1 k)).2.2.2.2.2.2.2.2.1
    have ib := (mk_s (g k) (W.2.2.1 k)).2.2.2.2.2.2.2.2.2.1
    have ih := IH 6 (k + 1) d (tk' m (k + 1) M) (by decide) (by decide) (mQk_tk ht Q) hk1 hd
    have fp1 := fp (k + 1) hk1
    have wp1 := WP_P (g := g) (n := n) (j := 6) (k := k + 1) (d := d)
    have ac1 := AC_Px W.2.2.1 n 6 (k + 1) d
    have e1 : bb_X14_isProduct_9 F M m = b_X14_isProduct_43 F M m (nI (opc (g k))) := by
      unfold bb_X14_isProduct_9 b_X14_isProduct_27
      rw [ck_t (t13 _ Q.1), show (42 : Int32) = nI 42 from rfl, M_isSign W Q.1 Q.2.1 hk (by decide)]
      by_cases c : g k = 33
      · rw [if_pos (ia.mpr c), bd_S, if_neg (by decide), ck_t (t13 _ Q.1), M_isSign W Q.1 Q.2.1 hk (by decide), if_pos (ia.mpr c), bd_S, if_neg (by decide), c]
        rfl
      · have c2 : g k = 34 := hg.resolve_left c
        rw [if_neg (fun z => c (ia.mp z)), bd_S, if_pos rfl, ck_t (t13 _ Q.1), show (47 : Int32) = nI 47 from rfl, M_isSign W Q.1 Q.2.1 hk (by decide), if_pos (ib.mpr c2), bd_S, if_neg (by decide), ck_t (t13 _ Q.1), M_isSign W Q.1 Q.2.1 hk (by decide), if_neg (fun z => c (ia.mp z)), bd_S, if_pos rfl, c2]
        rfl
    show match Px g n 6 (k + 1) d with
      | none => True
      | some (none, e) => ∃ M1, bb_X14_isProduct_9 F M m = some (.inr ((0 : Int32), M1)) ∧ MI m t M0 M1 ∧ mI M1 m 9 = nI e
      | some (some es, e) => ∃ M1, bb_X14_isProduct_9 F M m = some (.inl (puM t (nI (opc (g k))) M1)) ∧ MI m t M0 M1 ∧ mI M1 m 9 = nI e ∧ mI M1 m 10 = nI d ∧ si2 m M1 (mrn vs m t es M)
    rw [e1]
    unfold b_X14_isProduct_43
    rw [ck_t (t13 _ Q.1), Q.2.1, nI_1, lw_S]
    match Px g n 6 (k + 1) d, ih, fp1, wp1, ac1 with
    | none, _, _, _, _ => trivial
    | some (none, e), ⟨M2, k1, k2, k3⟩, _, _, _ =>
      have k1 : F 5 (wI M m 9 (nI (k + 1))) m = some ((0 : Int32), M2) := k1
      exact ⟨M2, by rw [k1, bd_S, if_pos rfl]; rfl, k2, k3⟩
    | some (some es, e), ⟨M2, k1, k2, k3, k4, k5⟩, fp1, wp1, ac1 =>
      have k1 : F 5 (wI M m 9 (nI (k + 1))) m = some ((1 : Int32), M2) := k1
      have w1 := wp1 es e rfl
      have hs2 := si2_tr k5 (si2_rn ht es si2_tk)
      obtain ⟨-, L, l1, l2⟩ := MQ_nx (vs := vs) (j := 2) ht Q (by have := fp1.1; omega) (by omega) (by omega) (ac1 es e rfl) k2 k3 k4 hs2
      exact ⟨M2, by rw [k1, bd_S, if_neg (by decide), ck_t (t13 _ k2), M_put W k2 l2 (by have := fp1.1; omega), bd_S], k2, k3, k4, hs2⟩
  · have ia := (mk_s (g k) (W.2.2.1 k)).2.2.2.2.2.2.2.2.1
    have ib := (mk_s (g k) (W.2.2.1 k)).2.2.2.2.2.2.2.2.2.1
    show bb_X14_isProduct_9 F M m = _
    unfold bb_X14_isProduct_9
    rw [ck_t (t13 _ Q.1), show (42 : Int32) = nI 42 from rfl, M_isSign W Q.1 Q.2.1 hk (by decide), if_neg (fun z => hg (.inl (ia.mp z))), bd_S, if_pos rfl, ck_t (t13 _ Q.1), show (47 : Int32) = nI 47 from rfl, M_isSign W Q.1 Q.2.1 hk (by decide), if_neg (fun z => hg (.inr (ib.mp z))), bd_S, if_pos rfl]
    rfl
