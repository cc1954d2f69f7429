/-! ## Pure: foresee on both sides -/
theorem T_foresee {Z : Nat → Nat} {b m o o' t n kb : Nat} {T : Nat → Nat} {M : gMem} {x y : Int32} (S : STv Z b m o o' t n kb T M) (hk : kb + 47520 < 2 ^ 31) : ∃ r M1 v M2, f_X11_foresee Z M b x y = some (r, M1) ∧ f_X14_foresee M1 m x y = some (v, M2) ∧ AGR 1 2 r v (mI M2 m 0) ∧ STv Z b m o o' t n kb T M2 ∧ mN M2 = mN M := by
  obtain ⟨c1, c2, LCo, c3, cA⟩ := STv_c S
  obtain ⟨e1, e2, e3, LA, eS, eI, e4, e5, e6⟩ := STv_m 0 S
  obtain ⟨p1, p2, p3, p4, p5, p6, p7, p8, p9, p10, p11, -, -⟩ := STv_p S
  obtain ⟨pg, len, F, G, np, ng, ⟨h1, P, W, D, TRr, R, V⟩, hG, hF, g2, g3, x0, x4, t13⟩ := STv_w S
  have hp6 : np ≤ 6 := W.2.2.2.2.1.2.1
  have hng : ng ≤ 24 := W.2.2.2.2.2.1.2.1
  by_cases hx : ∃ a, 1 ≤ a ∧ a ≤ 60 ∧ x = nI a
  · have ck1 : f_X11_checkTides M x 60 = some (.inr (), M) := (c_ckT (n := 60) (by omega)).1 hx
    have mk1 : ∀ X, f_X14_isIn X x 1 60 = some (1, X) := fun X => (m_inT (n := 60) (by omega)).1 hx
    by_cases hy : ∃ c, c < 3 ∧ y = nI c
    · have yy := hy
      obtain ⟨k, k1, k2, rfl⟩ := hx
      obtain ⟨c, hc, rfl⟩ := yy
      have mk2 : ∀ X, f_X14_isIn X (nI c) 0 2 = some (1, X) := fun X => (m_inC (n := 3) (by decide) (by omega)).1 hy
      obtain ⟨X1, x1, O1, C1, P1⟩ := c_look S (OFr_0 p10) P W R
      have W1 := WS_k C1 W
      have D1 := WD_k C1 D
      obtain ⟨A', q1, q2, O2, LX, W0, D0⟩ := c_run (n := k) p8 O1 P1 W1 D1 (fun _ _ _ => rfl) (fun _ _ => rfl) (by omega)
      rw [sC_cut] at q1
      have f2 : A' 0 2 = nI G := by rw [q2 0 (by omega), (tides_W (pg := pg) (len := len) W0 D0 k).1 0 2 (by unfold told; omega)]; exact W0.1
      have f3 : A' 0 3 = nI F := by rw [q2 0 (by omega), (tides_W (pg := pg) (len := len) W0 D0 k).1 0 3 (by unfold told; omega)]; exact W0.2.2.1
      have AF : AFr m o' M (wI (sC o' A' X1) m 0 0) := AFr_w (by omega) (AFr_O (by omega) O2)
      obtain ⟨X, hX⟩ : ∃ X, X = wI (sC o' A' X1) m 0 0 := ⟨_, rfl⟩
      rw [← hX] at AF
      obtain ⟨a1, a2, a3, a4, LA', LB', aT, aS, a5⟩ := m_AF S AF
      obtain ⟨st', b1, R'⟩ := m_look S AF hF hG hp6 R
      obtain ⟨st2, l1⟩ := r_foresee (c := c) (n := k) (kb := kb) LB' a4 (TR_T hG hF hp6 hng (eqT_nz (cutF 86 o' X1)) (TR_cg (fun _ _ _ => rfl) hF hG hp6 hng aT (TR_k C1 TRr))) W0 D0 (RS_nz (fun d hd => nz_e hd) (RS_k hG C1 R')) (SVa_cg (fun d d1 d2 => nz_e (by omega)) hF hG (SVa_k hG C1 V)) h1 k2 hc (by omega)
      refine ⟨.inr (frV A' F G c), sC o' A' X1, frV A' F G c, bC 17 (m + 41) st2 X, ?_, ?_, .inl ⟨rfl, ?_⟩, STv_a S (AFr_b (by omega) AF), AF.1.2.2⟩
      · unfold f_X11_foresee b_X11_foresee_0
        rw [bx_s ck1, if_neg (show ¬ nI c < 0 from fun z => absurd ((nI_ltI (a := c) (b := 0) (by omega) (by omega)).mp z) (by omega)), if_pos (show nI c ≤ 2 from nI_le (b := 2) (by omega) (by omega)), ck_t c1, bd_s x1, dr_S, ck_t (lTo LX), bd_s q1]
        exact c_frV LX f2 f3 hF hG hc
      · unfold f_X14_foresee b_X14_foresee_0
        rw [ck_t (show mT (sC o' A' X1) m = 13 by rw [← a1, hX]; rfl), lw_S, ← hX, bd_s (mk1 X), if_neg (show ¬ (1 : Int32) = 0 by decide), bd_s (mk2 X), if_neg (show ¬ (1 : Int32) = 0 by decide), ck_t a1, dr_s a4, ck_t LB'.1.1, a3, bd_s b1]
        rw [frV_cg (fun d hd => q2 d (by omega))]
        exact l1
      · rw [bC_Io (by omega), hX, wI_e]
    · have mk2 : ∀ X, f_X14_isIn X y 0 2 = some (0, X) := fun X => (m_inC (n := 3) (by decide) (by omega)).2 hy
      refine ⟨.inl 2, M, 0, wI (wI M m 0 0) m 0 2, ?_, ?_, .inr (.inr ⟨by decide, rfl, wI_e _ _ _ _⟩), STv_0 (STv_0 S), rfl⟩
      · unfold f_X11_foresee b_X11_foresee_0 b_X11_foresee_15
        rw [bx_s ck1]
        by_cases q : y < 0
        · rw [if_pos q]
        · rw [if_neg q, if_neg]
          intro w
          obtain ⟨a, z1, z2⟩ := nn_ex q
          rw [z1] at w
          have := (nI_leI (b := 2) z2 (by omega)).mp w
          exact hy ⟨a, by omega, z1⟩
      · unfold f_X14_foresee b_X14_foresee_0
        rw [ck_t t13, lw_S, bd_s (mk1 _), if_neg (show ¬ (1 : Int32) = 0 by decide), bd_s (mk2 _), if_pos rfl, ck_t e1, bd_s (m_no e1)]
  · have ck1 : f_X11_checkTides M x 60 = some (.inl 1, M) := (c_ckT (n := 60) (by omega)).2 hx
    have mk1 : ∀ X, f_X14_isIn X x 1 60 = some (0, X) := fun X => (m_inT (n := 60) (by omega)).2 hx
    refine ⟨.inl 1, M, 0, wI (wI M m 0 0) m 0 1, ?_, ?_, .inr (.inl ⟨rfl, wI_e _ _ _ _⟩), STv_0 (STv_0 S), rfl⟩
    · unfold f_X11_foresee b_X11_foresee_0
      rw [bx_t ck1]
    · unfold f_X14_foresee b_X14_foresee_0
      rw [ck_t t13, lw_S, bd_s (mk1 _), if_pos rfl, ck_t e1, bd_s (m_no e1)]
