theorem sq_n1 {k : Nat} {f : Nat → Option (Option (List (Nat × Nat)) × Nat)} : sq (some (some [], k)) f = f k := by
  show (match f k with
    | none => none
    | some (none, k1) => some (none, k1)
    | some (some es1, k1) => some (some ([] ++ es1), k1)) = f k
  generalize f k = z
  match z with
  | none => rfl
  | some (none, _) => rfl
  | some (some _, _) => rfl
theorem M_264 {g vs : Nat → Nat} {K m t : Nat} {M0 : gMem} (W : MWd g K m t M0) {F : Nat → gMem → Nat → Option (Int32 × gMem)} {e d : Nat} {M : gMem} (C : MI m t M0 M) (h9 : mI M m 9 = nI e) (h10 : mI M m 10 = nI d) (he : e ≤ K) : MRl vs m t d M0 M (tk1 g 26 e) (b_X14_isValue_264 F M m) := by
  unfold b_X14_isValue_264
  rw [ck_t (MI_B W.1 C).1.1]
  exact MR_ck (M_tkS (c := 41) W C h9 h10 he (by decide) (mk_s (g e) (W.2.2.1 e)).2.1)
theorem M_245 {g vs : Nat → Nat} {K m t : Nat} {M0 : gMem} (W : MWd g K m t M0) {F : Nat → gMem → Nat → Option (Int32 × gMem)} {c i e d L : Nat} {M : gMem} (C : MI m t M0 M) (h9 : mI M m 9 = nI e) (h10 : mI M m 10 = nI (d + 1)) (he : e ≤ K) (hL : mI M t 22 = nI L) (hl : L < 800) (hc : c = 23 ∨ c = 24) : MRl vs m t d M0 M (sq (tk1 g 26 e) (em (c, i))) (b_X14_isValue_245 F M m (nI c) 1) := by
  have ht := W.1.2.2
  obtain ⟨b1, b2, b3, b4, b5⟩ := dp_dn ht C h9 h10
  have ho : opc c = c := by unfold opc; rw [if_neg (by omega), if_neg (by omega), if_neg (by omega)]
  unfold b_X14_isValue_245
  rw [ck_t (MI_B W.1 C).1.1, b1, lw_S, if_neg (by decide), M_put W b2 (by rw [b5 _ _ (by omega)]; exact hL) hl, bd_S]
  have o9 : ∀ j, mI (puM t (nI c) (dpM m d M)) m j = mI (dpM m d M) m j := fun j => by unfold puM; rw [wI_o (.inl (by omega)), wI_o (.inl (by omega))]
  have C2 : MI m t M0 (puM t (nI c) (dpM m d M)) := MI_w (MI_w b2 (.inr (.inr (by omega))) ht) (.inr (.inr (by omega))) ht
  have key := M_264 (vs := vs) (F := F) W C2 (by rw [o9]; exact b3) (by rw [o9]; exact b4) he
  have ev : si2 m (puM t (nI c) (dpM m d M)) (mst1 vs m t c i M) := by
    rw [ms_op (by omega), ho]
    exact si2_pu ht si2_dp
  unfold tk1 at key ⊢
  by_cases q : g e = 26
  · rw [if_pos q] at key ⊢
    rw [sq_n1]
    obtain ⟨M2, k1, k2, k3, k4, k5⟩ := key
    exact ⟨M2, k1, k2, k3, k4, si2_tr k5 ev⟩
  · rw [if_neg q] at key ⊢
    obtain ⟨M2, k1, k2, k3⟩ := key
    exact ⟨M2, k1, k2, k3⟩
theorem M_199a {g vs : Nat → Nat} {K m t : Nat} {M0 : gMem} (W : MWd g K m t M0) {n : Nat} {F : Nat → gMem → Nat → Option (Int32 × gMem)} (IH : ∀ j k d M, j < 7 → j ≠ 3 → mQk m t d M0 M k → k ≤ K → d ≤ 8 → MRl vs m t d M0 M (Px g n j k d) (F (if j < 3 then j else j - 1) M m)) {k d : Nat} {x1 : Int32} {M : gMem} (Q : mQk m t d M0 M k) (hk : k ≤ K) (hd : d ≤ 8) : MRl vs m t d M0 M (if g k = 25 then (if 8 ≤ d then ft k else sq (Px g n 4 (k + 1) (d + 1)) (tk1 g 26)) else ft k) (b_X14_isValue_199 F M m x1 0) := by
  have ht := W.1.2.2
  have H := W.2.2.2.2
  have t13 : ∀ X, MI m t M0 X → mT X m = 13 := fun X CX => (MI_B W.1 CX).1.1
  have i25 := (mk_s (g k) (W.2.2.1 k)).1
  unfold b_X14_isValue_199 b_X14_isValue_243
  rw [ck_t (t13 _ Q.1), show (40 : Int32) = nI 40 from rfl, M_isSign W Q.1 Q.2.1 hk (by decide)]
  by_cases c : g k = 25
  · have hk1 := H k hk (by omega)
    have Q1 := mQk_dp ht Q
    rw [if_pos c, if_pos (i25.mpr c), bd_S, if_neg (show ¬ (1 : Int32) = 0 by decide), ck_t (t13 _ Q.1), M_deep W Q.1 Q.2.1 hk Q.2.2.1 hd]
    by_cases c8 : 8 ≤ d
    · rw [if_pos c8, if_pos c8, bd_S, if_pos rfl]; exact ⟨M, rfl, Q.1, Q.2.1⟩
    rw [if_neg c8, if_neg c8, bd_S, if_neg (show ¬ (1 : Int32) = 0 by decide)]
    show MRl vs m t d M0 M _ (ck (mT (tk' m (k + 1) (dpM m (d + 1) M)) m = 13) _)
    rw [ck_t (t13 _ Q1.1)]
    refine MR_si ht (si2_tr si2_tk si2_dp) (MR_sq2 ht (IH 4 (k + 1) (d + 1) _ (by decide) (by decide) Q1 hk1 (by omega)) (fun es M1 e1 hx C1 h9 h10 hs => ?_))
    have fe := FP_e ((FP_Px H n 4 (k + 1) (d + 1) hk1).1 (by decide)) hx
    obtain ⟨b1, b2, b3, b4, b5⟩ := dp_dn ht C1 h9 h10
    rw [if_pos rfl]
    unfold b_X14_isValue_245
    rw [ck_t (t13 _ C1), b1, lw_S, if_pos rfl]
    exact MR_si ht si2_dp (M_264 W b2 b3 b4 fe.1)
  · rw [if_neg c, if_neg (fun z => c (i25.mp z)), bd_S, if_pos rfl]
    exact ⟨M, rfl, Q.1, Q.2.1⟩
theorem M_199b {g vs : Nat → Nat} {K m t : Nat} {M0 : gMem} (W : MWd g K m t M0) {n : Nat} {F : Nat → gMem → Nat → Option (Int32 × gMem)} (IH : ∀ j k d M, j < 7 → j ≠ 3 → mQk m t d M0 M k → k ≤ K → d ≤ 8 → MRl vs m t d M0 M (Px g n j k d) (F (if j < 3 then j else j - 1) M m)) {k d c i : Nat} {M : gMem} (Q : mQk m t d M0 M k) (hk : k ≤ K) (hd : d ≤ 8) (hc : c = 23 ∨ c = 24) : MRl vs m t d M0 M (if 8 ≤ d then ft k else sq (tk1 g 25 k) fun k1 => sq (Px g n 4 k1 (d + 1)) fun k2 => sq (tk1 g 30 k2) fun k3 => sq (Px g n 4 k3 (d + 1)) fun k4 => sq (tk1 g 26 k4) (em (c, i))) (b_X14_isValue_199 F M m (nI c) 1) := by
  have ht := W.1.2.2
  have hK := W.2.2.2.1
  have H := W.2.2.2.2
  have t13 : ∀ X, MI m t M0 X → mT X m = 13 := fun X CX => (MI_B W.1 CX).1.1
  have i25 := (mk_s (g k) (W.2.2.1 k)).1
  unfold b_X14_isValue_199 b_X14_isValue_243
  rw [ck_t (t13 _ Q.1), show (40 : Int32) = nI 40 from rfl, M_isSign W Q.1 Q.2.1 hk (by decide)]
  by_cases q : g k = 25
  · have hk1 := H k hk (by omega)
    have Q1 := mQk_dp ht Q
    rw [if_pos (i25.mpr q), bd_S, if_neg (show ¬ (1 : Int32) = 0 by decide), ck_t (t13 _ Q.1), M_deep W Q.1 Q.2.1 hk Q.2.2.1 hd]
    by_cases c8 : 8 ≤ d
    · rw [if_pos c8, if_pos c8, bd_S, if_pos rfl]; exact ⟨M, rfl, Q.1, Q.2.1⟩
    rw [if_neg c8, if_neg c8, bd_S, if_neg (show ¬ (1 : Int32) = 0 by decide)]
    show MRl vs m t d M0 M _ (ck (mT (tk' m (k + 1) (dpM m (d + 1) M)) m = 13) _)
    rw [ck_t (t13 _ Q1.1), show tk1 g 25 k = some (some [], k + 1) from if_pos q, sq_n1]
    refine MR_si ht (si2_tr si2_tk si2_dp) (MR_sq2 ht (IH 4 (k + 1) (d + 1) _ (by decide) (by decide) Q1 hk1 (by omega)) (fun es M1 e1 hx C1 h9 h10 hs => ?_))
    have fe := FP_e ((FP_Px H n 4 (k + 1) (d + 1) hk1).1 (by decide)) hx
    have wp := WP_P es e1 hx
    obtain ⟨Q2, -⟩ := MQ_nx (vs := vs) (j := 0) ht Q1 (by omega) (by omega) (by omega) (AC_Px W.2.2.1 n 4 (k + 1) (d + 1) es e1 hx) C1 h9 h10 hs
    rw [if_neg (by decide), ck_t (t13 _ C1)]
    refine MR_sq2 ht (M_tkS (c := 44) W C1 h9 h10 fe.1 (by decide) (mk_s (g e1) (W.2.2.1 e1)).2.2.2.2.2.1) (fun es2 M2 e2 hx2 C2 h92 h102 hs2 => ?_)
    have e30 : es2 = [] ∧ e2 = e1 + 1 ∧ g e1 = 30 := by
      unfold tk1 at hx2
      by_cases z : g e1 = 30
      · rw [if_pos z] at hx2; cases hx2; exact ⟨rfl, rfl, z⟩
      · rw [if_neg z] at hx2; cases hx2
    obtain ⟨z1, z2, z3⟩ := e30
    subst z1 z2
    have he1 := H e1 fe.1 (by omega)
    obtain ⟨Q3, -⟩ := MQ_nx (vs := vs) (j := 0) ht Q2 (by omega) (show we [] + 2 * e1 + 0 ≤ 2 * (e1 + 1) from by show 0 + _ + 0 ≤ _; omega) (show ne [] + e1 ≤ e1 + 1 from by show 0 + _ ≤ _; omega) (fun y hy => by cases hy) C2 h92 h102 hs2
    rw [ck_t (t13 _ C2)]
    refine MR_sq2 ht (IH 4 (e1 + 1) (d + 1) _ (by decide) (by decide) Q3 he1 (by omega)) (fun es3 M3 e3 hx3 C3 h93 h103 hs3 => ?_)
    have fe3 := FP_e ((FP_Px H n 4 (e1 + 1) (d + 1) he1).1 (by decide)) hx3
    have wp3 := WP_P es3 e3 hx3
    obtain ⟨-, L, l1, l2⟩ := MQ_nx (vs := vs) (j := 2) ht Q2 (by omega) (by omega) (by omega) (AC_Px W.2.2.1 n 4 (e1 + 1) (d + 1) es3 e3 hx3) C3 h93 h103 (si2_tr hs3 (si2_rn ht es3 hs2))
    exact M_245 W C3 h93 h103 fe3.1 l2 (by omega) hc
  · rw [if_neg (fun z => q (i25.mp z)), bd_S, if_pos rfl, show tk1 g 25 k = ft k from if_neg q]
    by_cases c8 : 8 ≤ d
    · rw [if_pos c8]; exact ⟨M, rfl, Q.1, Q.2.1⟩
    · rw [if_neg c8]; exact ⟨M, rfl, Q.1, Q.2.1⟩
theorem M_isValue {g vs : Nat → Nat} {K m t : Nat} {M0 : gMem} (W : MWd g K m t M0) {n : Nat} {F : Nat → gMem → Nat → Option (Int32 × gMem)} (IH : ∀ j k d M, j < 7 → j ≠ 3 → mQk m t d M0 M k → k ≤ K → d ≤ 8 → MRl vs m t d M0 M (Px g n j k d) (F (if j < 3 then j else j - 1) M m)) (hN : ∀ X k, MI m t M0 X → k ≤ K → g k = 41 → f_X14_numberAt X m (nI k) = some (nI (vs k), X)) {k d : Nat} {M : gMem} (Q : mQk m t d M0 M k) (hk : k ≤ K) (hd : d ≤ 8) : MRl vs m t d M0 M (if g k = 41 then em (41, k) (k + 1)
      else if g k = 15 then em (15, k) (k + 1)
      else if g k = 16 ∨ g k = 17 ∨ g k = 4 then nm g (g k) (k + 1)
      else if g k = 2 ∨ g k = 18 then nm g (g k) (k + 1)
      else if g k = 32 then (if 8 ≤ d then ft k else sq (Px g n 6 (k + 1) (d + 1)) (em (44, k)))
      else if g k = 25 then (if 8 ≤ d then ft k else sq (Px g n 4 (k + 1) (d + 1)) (tk1 g 26))
      else if g k = 23 ∨ g k = 24 then
        (if 8 ≤ d then ft (k + 1) else sq (tk1 g 25 (k + 1)) fun k1 => sq (Px g n 4 k1 (d + 1)) fun k2 => sq (tk1 g 30 k2) fun k3 => sq (Px g n 4 k3 (d + 1)) fun k4 => sq (tk1 g 26 k4) (em (g k, k)))
      else ft k) (fr_X14_isValue F M m) := by
  have ht := W.1.2.2
  have hK := W.2.2.2.1
  have H := W.2.2.2.2
  have t13 : ∀ X, MI m t M0 X → mT X m = 13 := fun X CX => (MI_B W.1 CX).1.1
  have t0 := t13 _ Q.1
  obtain ⟨-, mi, -⟩ := mk_i (g k) (W.2.2.1 k)
  have i41 := mi 41 (by decide) (by decide)
  have i15 := mi 15 (by decide) (by decide)
  have i16 := mi 16 (by decide) (by decide)
  have i17 := mi 17 (by decide) (by decide)
  have i4 := mi 4 (by decide) (by decide)
  have i2 := mi 2 (by decide) (by decide)
  have i18 := mi 18 (by decide) (by decide)
  have i23 := mi 23 (by decide) (by decide)
  have i24 := mi 24 (by decide) (by decide)
  have i32 := (mk_s (g k) (W.2.2.1 k)).2.2.2.2.2.2.2.1
  obtain ⟨C, h9, h10, ⟨L, l1, l2⟩, ⟨n0, n1, n2⟩⟩ := id Q
  unfold fr_X14_isValue b_X14_isValue_0
  rw [ck_t t0, show (41 : Int32) = nI 41 from rfl, M_is W C h9 hk (by decide)]
  by_cases c : g k = 41
  · have hk1 := H k hk (by omega)
    rw [if_pos c, if_pos (i41.mpr c), bd_S, if_neg (show ¬ (1 : Int32) = 0 by decide), ck_t t0, show (30 : Int32) = nI 30 from rfl, M_put W C l2 (by omega), bd_S]
    have o9 : ∀ X v j, mI (puM t v X) m j = mI X m j := fun X v j => by unfold puM; rw [wI_o (.inl (by omega)), wI_o (.inl (by omega))]
    have CC : ∀ X v, MI m t M0 X → MI m t M0 (puM t v X) := fun X v CX => MI_w (MI_w CX (.inr (.inr (by omega))) ht) (.inr (.inr (by omega))) ht
    have C2 := CC _ (nI 30) C
    have l3 := (pu_l (v := nI 30) l2 (by omega)).1
    rw [ck_t (t13 _ C2), show mI (puM t (nI 30) M) m 9 = nI k from (o9 _ _ _).trans h9, hN _ k C2 hk c, bd_S, ck_t (t13 _ C2), M_put W C2 l3 (by omega), bd_S, ck_t (t13 _ (CC _ _ C2)), show mI (puM t (nI (vs k)) (puM t (nI 30) M)) m 9 = nI k from (o9 _ _ _).trans ((o9 _ _ _).trans h9), nI_1, lw_S]
    refine ⟨_, rfl, MI_w (CC _ _ C2) (.inl (by omega)) ht, wI_e _ _ _ _, (wI_o (.inr (by omega))).trans ((o9 _ _ _).trans ((o9 _ _ _).trans h10)), ?_⟩
    show si2 m (tk' m (k + 1) (puM t (nI (vs k)) (puM t (nI 30) M))) (mst1 vs m t 41 k M)
    have e1 : mst1 vs m t 41 k M = puM t (nI (vs k)) (puM t (nI 30) M) := by
      unfold mst1
      rw [if_neg (by decide), if_neg (by decide), if_pos rfl]
    rw [e1]
    exact si2_tk
  rw [if_neg c, if_neg (fun z => c (i41.mp z)), bd_S, if_pos rfl, ck_t t0, show (15 : Int32) = nI 15 from rfl, M_is W C h9 hk (by decide)]; clear c i41
  by_cases c : g k = 15
  · have hk1 := H k hk (by omega)
    rw [if_pos c, if_pos (i15.mpr c), bd_S, if_neg (show ¬ (1 : Int32) = 0 by decide), ck_t t0, M_put W C l2 (by omega), bd_S]
    have o9 : ∀ j, mI (puM t (nI 15) M) m j = mI M m j := fun j => by unfold puM; rw [wI_o (.inl (by omega)), wI_o (.inl (by omega))]
    have C2 : MI m t M0 (puM t (nI 15) M) := MI_w (MI_w C (.inr (.inr (by omega))) ht) (.inr (.inr (by omega))) ht
    rw [ck_t (t13 _ C2), o9, h9, nI_1, lw_S]
    refine ⟨_, rfl, MI_w C2 (.inl (by omega)) ht, wI_e _ _ _ _, (wI_o (.inr (by omega))).trans ((o9 _).trans h10), ?_⟩
    show si2 m (tk' m (k + 1) (puM t (nI 15) M)) (mst1 vs m t 15 k M)
    rw [ms_op (.inl rfl)]
    exact si2_tk
  rw [if_neg c, if_neg (fun z => c (i15.mp z)), bd_S, if_pos rfl, ck_t t0, show (16 : Int32) = nI 16 from rfl, M_is W C h9 hk (by decide)]; clear c i15
  have e92 : (g k = 16 ∨ g k = 17 ∨ g k = 4) → MRl vs m t d M0 M (nm g (g k) (k + 1)) (b_X14_isValue_92 F M m) := fun c => by
    unfold b_X14_isValue_92
    rw [ck_t t0]
    exact M_nm W Q hk rfl (.inl ⟨by omega, rfl⟩)
  have e116 : (g k = 2 ∨ g k = 18) → MRl vs m t d M0 M (nm g (g k) (k + 1)) (b_X14_isValue_116 F M m) := fun c => by
    unfold b_X14_isValue_116
    rw [ck_t t0]
    exact M_nm W Q hk rfl (.inr ⟨by omega, rfl⟩)
  by_cases c : g k = 16
  · rw [if_pos (show g k = 16 ∨ g k = 17 ∨ g k = 4 from .inl c), if_pos (i16.mpr c), bd_S, if_neg (show ¬ (1 : Int32) = 0 by decide)]; exact e92 (.inl c)
  rw [if_neg (fun z => c (i16.mp z)), bd_S, if_pos rfl, ck_t t0, show (17 : Int32) = nI 17 from rfl, M_is W C h9 hk (by decide)]
  by_cases c1 : g k = 17
  · rw [if_pos (show g k = 16 ∨ g k = 17 ∨ g k = 4 from .inr (.inl c1)), if_pos (i17.mpr c1), bd_S, if_neg (show ¬ (1 : Int32) = 0 by decide)]; exact e92 (.inr (.inl c1))
  rw [if_neg (fun z => c1 (i17.mp z)), bd_S, if_pos rfl, ck_t t0, show (4 : Int32) = nI 4 from rfl, M_is W C h9 hk (by decide)]
  by_cases c2 : g k = 4
  · rw [if_pos (show g k = 16 ∨ g k = 17 ∨ g k = 4 from .inr (.inr c2)), if_pos (i4.mpr c2), bd_S, if_neg (show ¬ (1 : Int32) = 0 by decide)]; exact e92 (.inr (.inr c2))
  rw [if_neg (show ¬ (g k = 16 ∨ g k = 17 ∨ g k = 4) from by omega), if_neg (fun z => c2 (i4.mp z)), bd_S, if_pos rfl, ck_t t0, show (2 : Int32) = nI 2 from rfl, M_is W C h9 hk (by decide)]; clear c c1 c2 i16 i17 i4 e92
  by_cases c : g k = 2
  · rw [if_pos (show g k = 2 ∨ g k = 18 from .inl c), if_pos (i2.mpr c), bd_S, if_neg (show ¬ (1 : Int32) = 0 by decide)]; exact e116 (.inl c)
  rw [if_neg (fun z => c (i2.mp z)), bd_S, if_pos rfl, ck_t t0, show (18 : Int32) = nI 18 from rfl, M_is W C h9 hk (by decide)]
  by_cases c1 : g k = 18
  · rw [if_pos (show g k = 2 ∨ g k = 18 from .inr c1), if_pos (i18.mpr c1), bd_S, if_neg (show ¬ (1 : Int32) = 0 by decide)]; exact e116 (.inr c1)
  rw [if_neg (show ¬ (g k = 2 ∨ g k = 18) from by omega), if_neg (fun z => c1 (i18.mp z)), bd_S, if_pos rfl, ck_t t0, show (45 : Int32) = nI 45 from rfl, M_isSign W C h9 hk (by decide)]; clear c c1 i2 i18 e116
  by_cases c : g k = 32
  · have hk1 := H k hk (by omega)
    have Q1 := mQk_dp ht Q
    rw [if_pos c, if_pos (i32.mpr c), bd_S, if_neg (show ¬ (1 : Int32) = 0 by decide), ck_t t0, M_deep W C h9 hk h10 hd]
    unfold b_X14_isValue_146
    by_cases c8 : 8 ≤ d
    · rw [if_pos c8, if_pos c8, bd_S, if_pos rfl]; exact ⟨M, rfl, C, h9⟩
    rw [if_neg c8, if_neg c8, bd_S, if_neg (show ¬ (1 : Int32) = 0 by decide)]
    show MRl vs m t d M0 M _ (ck (mT (tk' m (k + 1) (dpM m (d + 1) M)) m = 13) _)
    rw [ck_t (t13 _ Q1.1)]
    refine MR_si ht (si2_tr si2_tk si2_dp) (MR_sq2 ht (IH 6 (k + 1) (d + 1) _ (by decide) (by decide) Q1 hk1 (by omega)) (fun es M1 e1 hx C1 h9 h10 hs => ?_))
    have fe := FP_e ((FP_Px H n 6 (k + 1) (d + 1) hk1).1 (by decide)) hx
    have wp := WP_P es e1 hx
    obtain ⟨b1, b2, b3, b4, b5⟩ := dp_dn ht C1 h9 h10
    have hs2 : si2 m (dpM m d M1) (mrn vs m t es M) := si2_tr si2_dp (si2_tr hs (si2_rn ht es (si2_tr si2_tk si2_dp)))
    obtain ⟨-, L, l1, l2⟩ := MQ_nx (vs := vs) (j := 2) ht Q (by omega) (by omega) (by omega) (AC_Px W.2.2.1 n 6 (k + 1) (d + 1) es e1 hx) b2 b3 b4 hs2
    rw [ck_t (t13 _ C1), b1, lw_S]
    exact MR_si ht si2_dp (M_em (c := 44) W b2 b3 b4 fe.1 l2 (by omega) (by decide))
  rw [if_neg c, if_neg (fun z => c (i32.mp z)), bd_S, if_pos rfl, ck_t t0]; clear c i32
  obtain ⟨⟨-, r4, -, -, u2, v2, -⟩, -⟩ := MI_B W.1 C
  have q : inb (nI k) 401 := (inbN (by omega)).mpr (by omega)
  rw [dr_s r4, ck_t u2, h9, v2, ck_t q, nI_clamp (by omega), MI_T W C k hk, show (23 : Int32) = nI 23 from rfl, M_eat W C h9 hk (by decide)]
  have e194 : ∀ c, (c = 23 ∨ c = 24) → g k = c → MRl vs m t d M0 M (if 8 ≤ d then ft (k + 1) else sq (tk1 g 25 (k + 1)) fun k1 => sq (Px g n 4 k1 (d + 1)) fun k2 => sq (tk1 g 30 k2) fun k3 => sq (Px g n 4 k3 (d + 1)) fun k4 => sq (tk1 g 26 k4) (em (g k, k))) (b_X14_isValue_194 F (tk' m (k + 1) M) m (nI c)) := fun c hc e => by
    unfold b_X14_isValue_194
    rw [e]
    exact MR_si ht si2_tk (M_199b W IH (mQk_tk ht Q) (H k hk (by omega)) hd hc)
  by_cases c : g k = 23
  · rw [if_neg (show ¬ g k = 25 from by omega), if_pos (show g k = 23 ∨ g k = 24 from .inl c), if_pos (i23.mpr c), bd_S, if_neg (show ¬ (1 : Int32) = 0 by decide), i23.mpr c]
    exact e194 23 (.inl rfl) c
  rw [if_neg (fun z => c (i23.mp z)), bd_S, if_pos rfl, ck_t t0, show (24 : Int32) = nI 24 from rfl, M_eat W C h9 hk (by decide)]
  by_cases c1 : g k = 24
  · rw [if_neg (show ¬ g k = 25 from by omega), if_pos (show g k = 23 ∨ g k = 24 from .inr c1), if_pos (i24.mpr c1), bd_S, if_neg (show ¬ (1 : Int32) = 0 by decide), i24.mpr c1]
    exact e194 24 (.inr rfl) c1
  rw [if_neg (fun z => c1 (i24.mp z)), bd_S, if_pos rfl, if_neg (show ¬ (g k = 23 ∨ g k = 24) from by omega)]
  exact M_199a W IH Q hk hd
/-- the whole recursion -/
theorem M_Px {g vs : Nat → Nat} {K m t : Nat} {M0 : gMem} (W : MWd g K m t M0) (hN : ∀ X k, MI m t M0 X → k ≤ K → g k = 41 → f_X14_numberAt X m (nI k) = some (nI (vs k), X)) : ∀ n n', n' ≤ n → ∀ n1, n' ≤ n1 → ∀ j k d M, j < 7 → j ≠ 3 → mQk m t d M0 M k → k ≤ K → d ≤ 8 → MRl vs m t d M0 M (Px g n' j k d) (fX14R n1 (if j < 3 then j else j - 1) M m)
  | _, 0, _, _, _, _, _, _, _, _, _, _, _, _ => trivial
  | n, n' + 1, hn, 0, h1, _, _, _, _, _, _, _, _, _ => by omega
  | 0, n' + 1, hn, _, _, _, _, _, _, _, _, _, _, _ => by omega
  | n + 1, n' + 1, hn, n1 + 1, h1, j, k, d, M, hj, hj3, Q, hk, hd => by
    have IH := fun j k d M => M_Px W hN n n' (by omega) n1 (by omega) j k d M
    have IH3 : ∀ n2 k d M, n' = n2 + 1 → mQk m t d M0 M k → k ≤ K → d ≤ 8 → MRl vs m t d M0 M (Px g n2 4 k d) (fX14R n1 3 M m) := fun n2 k d M e Q hk hd => M_Px W hN n n2 (by omega) n1 (by omega) 4 k d M (by decide) (by decide) Q hk hd
    rw [Px, fX14R]
    match j, hj, hj3 with
    | 0, _, _ => exact M_isTest W IH Q hk hd
    | 1, _, _ => exact M_isBoth W IH Q hk hd
    | 2, _, _ => exact M_isSingle W IH IH3 Q hk hd
    | 3, _, h => exact absurd rfl h
    | 4, _, _ => exact M_isSum W IH Q hk hd
    | 5, _, _ => exact M_isProduct W IH Q hk hd
    | 6, _, _ => exact M_isValue W IH hN Q hk hd
    | j + 7, h, _ => omega
