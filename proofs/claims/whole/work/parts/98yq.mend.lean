/-! ## Pure: the reference's cells in a memory where the class has changed; mend, cheat -/
theorem eqX_PSz {o : Nat} {A' : Nat → Nat → Int32} {M X : gMem} (P : PSz o M) (hE : eqX (cutF 86 o M) A') (hA : ∀ d, d < 86 → mI X (o + d) = A' d) : PSz o X := fun q hq => by
  rw [hA _ (by omega), hE _ _ (by unfold toldX told; omega), cutF_e (by omega)]
  exact P q hq
/-- both have new numbers -/
theorem STv_s {Z pg : Nat → Nat} {b m o o' t n kb kb' len F G np nO : Nat} {T : Nat → Nat} {M : gMem} {A' st' : Nat → Nat → Int32} {v : Int32} (S : STv Z b m o o' t n kb T M) (h1 : len ≤ 400) (P : PG Z pg o len M (cutF 86 o M)) (W : WS (cutF 86 o M) F G np nO) (TRr : TR pg len (cutF 86 o M) M t F G np nO) (hE : eqX (cutF 86 o M) A') (h12 : ∀ d, 12 ≤ d → d < 18 → A' d = cutF 86 o M d) (D : WD A' F G) (R : RS A' st' F G np) (V : SVa kb' A' F G) : STv Z b m o o' t n kb' T (bC 17 (m + 24) st' (wI (sC o A' M) m 0 v)) := by
  have S' := id S
  obtain ⟨s0, ⟨-, oo, -, ⟨L1, L2, F1, F2, P1, P2⟩, cN⟩, ⟨-, -, -, ⟨v1, v2, v3, v4⟩⟩, -, -⟩ := S'
  obtain ⟨X, hX⟩ : ∃ X, X = bC 17 (m + 24) st' (wI (sC o A' M) m 0 v) := ⟨_, rfl⟩
  have hA : ∀ d, d < 86 → mI X (o + d) = A' d := fun d hd => by
    funext k
    rw [hX, bC_Io (by omega), wI_o (.inl (by omega)), sC_I hd]
  have hS : ∀ d, d < 17 → mI X (m + 24 + d) = st' d := fun d hd => by
    funext k
    rw [hX, bC_I hd]
  have hO : ∀ a, a ≠ m → ¬ (o ≤ a ∧ a < o + 86) → ¬ (m + 24 ≤ a ∧ a < m + 41) → mI X a = mI M a := fun a i1 i2 i3 => by
    funext k
    rw [hX, bC_Io (by omega), wI_o (.inl i1), sC_Io (by omega)]
  rw [← hX]
  have oT : mT X = mT M := by rw [hX]; rfl
  have oL : mL X = mL M := by rw [hX]; rfl
  have oR : mR X = mR M := by rw [hX]; rfl
  have oN : mN X = mN M := by rw [hX]; rfl
  refine STv_u S (fun a _ => ⟨by rw [oT], by rw [oL], fun _ => by rw [oR]⟩) (fun a _ i1 i2 i3 => hO a i1 (by omega) (by omega)) (fun k hk => ?_) ⟨FRS_e F1 fun d i1 i2 => ?_, FRS_e F2 fun d i1 i2 => hO _ (by omega) (by omega) (by omega), eqX_PSz P1 hE hA, PSz_e P2 fun d i1 i2 => hO _ (by omega) (by omega) (by omega)⟩ (REL_u h1 P W TRr hE hA hS (by rw [oR]) (fun j hj => hO _ (by omega) (by omega) (by omega)) D R V) (by omega)
  · rw [hX, bC_Io (by omega), wI_o (.inr hk), sC_Io (by omega)]
  · rw [hA d (by omega), h12 d i1 i2, cutF_e (by omega)]
/-- the reference, seen behind the class -/
theorem STv_y {Z : Nat → Nat} {b m o o' t n kb : Nat} {T : Nat → Nat} {M : gMem} {A' : Nat → Nat → Int32} (v : Int32) (S : STv Z b m o o' t n kb T M) : bC 17 (m + 24) (cutF 17 (m + 24) M) (wI (sC o A' M) m 0 v) = wI (sC o A' M) m 0 v ∧ ∀ j k, j < 17 → mI (wI (sC o A' M) m 0 v) (t + j) k = mI M (t + j) k := by
  obtain ⟨s0, ⟨-, oo, -⟩, ⟨-, -, -, ⟨v1, v2, v3, v4⟩⟩, -, -⟩ := S
  refine ⟨?_, fun j k hj => by rw [wI_o (.inl (by omega)), sC_Io (by omega)]⟩
  have e : cutF 17 (m + 24) M = cutF 17 (m + 24) (wI (sC o A' M) m 0 v) := by
    funext d
    by_cases h : d < 17
    · rw [cutF_e h, cutF_e h]
      funext k
      rw [wI_o (.inl (by omega)), sC_Io (by omega)]
    · unfold cutF
      rw [if_neg h, if_neg h]
  rw [e]
  exact bC_cut
theorem up2_d {A : Nat → Nat → Int32} {d e k : Nat} {v : Int32} (h : d ≠ e) : up2 A e k v d = A d := funext fun j => up2_ne (.inl h)
theorem T_mend {Z : Nat → Nat} {b m o o' t n kb : Nat} {T : Nat → Nat} {M : gMem} {x : Int32} (S : STv Z b m o o' t n kb T M) (hk : kb < 2 ^ 31) : ∃ r M1 v M2, f_X11_mend M b x = some (r, M1) ∧ f_X14_mend M1 m x = some (v, M2) ∧ AGR 2 0 r v (mI M2 m 0) ∧ STv Z b m o o' t n kb T M2 ∧ mN M2 = mN M := by
  obtain ⟨c1, c2, LCo, c3, cA⟩ := STv_c S
  obtain ⟨e1, e2, e3, LA, eS, eI, e4, e5, e6⟩ := STv_m 0 S
  obtain ⟨pg, len, F, G, np, nO, ⟨h1, P, W, D, TRr, R, V⟩, hG, hF, g2, g3, x0, x4, t13⟩ := STv_w S
  by_cases hx : ∃ a, a < F ∧ x = nI a
  · have xx := hx
    obtain ⟨f, hf, hxf⟩ := xx
    subst hxf
    have hf8 : f < 8 := by omega
    obtain ⟨A, hA⟩ : ∃ A, A = cutF 86 o M := ⟨_, rfl⟩
    rw [← hA] at cA P W D TRr R V
    obtain ⟨st, hst⟩ : ∃ st, st = cutF 17 (m + 24) M := ⟨_, rfl⟩
    rw [← hst] at R eS
    have cRg' : mR M (o + 2) f = some (o + (34 + 2 * f)) := by rw [← cA]; exact cRrf LCo hf8
    have cTg' : mT M (o + (34 + 2 * f)) = 1 := by rw [← cA]; exact cTf LCo hf8
    have Af : ∀ k, mI M (o + (34 + 2 * f)) k = A (34 + 2 * f) k := fun k => by rw [hA, cutF_e (by omega)]
    obtain ⟨r1, r2, r3, r4, r5⟩ := R.1.2.2.2 f hf
    have td3 : ∀ k, mI M (t + 3) k = mI M (t + 3) k := fun _ => rfl
    -- the reference, whichever way it goes
    have mm : ∀ X, LSt m t (m + 24) X → mR X m 13 = some (m + 24) → bC 17 (m + 24) st (wI X m 0 0) = wI X m 0 0 → mI (wI X m 0 0) t 4 = nI F → mI (wI X m 0 0) (t + 3) f = A (34 + 2 * f) 0 → f_X14_mend X m (nI f) = if A (34 + 2 * f) 1 = A (34 + 2 * f) 0 then some (0, wI (wI X m 0 0) m 0 2) else if 3 ≤ A (34 + 2 * f) 4 then some (A (34 + 2 * f) 4 - 3, bC 17 (m + 24) (up2 (up2 st 4 f (A (34 + 2 * f) 0)) 5 f (A (34 + 2 * f) 4 - 3)) (wI X m 0 0)) else some (0, wI (wI X m 0 0) m 0 2) := fun X LX x13 xS xf xt => by
      have st4 : mI (wI X m 0 0) (m + 24 + 4) f = A (34 + 2 * f) 1 := by rw [← xS, bC_I (by omega), r1]
      have st5 : mI (wI X m 0 0) (m + 24 + 5) f = A (34 + 2 * f) 4 := by rw [← xS, bC_I (by omega), r2]
      have h4 := LX.2.2.1 4 (by omega) (by omega)
      have h5 := LX.2.2.1 5 (by omega) (by omega)
      have hd := LX.2.2.2.1 3 (by omega) (by omega)
      have hr : mR X t 5 = some (t + 3) := LX.2.2.2.2 5 (by omega) (by decide)
      have i8 : inb (nI f) 8 := (inbN (by omega)).mpr hf8
      have W0 : ∀ Y, Y = bC 17 (m + 24) st (wI X m 0 0) → wI (wI Y (m + 24 + 4) f (A (34 + 2 * f) 0)) (m + 24 + 5) f (A (34 + 2 * f) 4 - 3) = bC 17 (m + 24) (up2 (up2 st 4 f (A (34 + 2 * f) 0)) 5 f (A (34 + 2 * f) 4 - 3)) (wI X m 0 0) := by
        rintro _ rfl
        rw [bC_W (by omega), bC_W (by omega)]
      have W1 := W0 _ xS.symm
      have bad : b_X14_mend_53 (wI X m 0 0) m = some (0, wI (wI X m 0 0) m 0 2) := by
        unfold b_X14_mend_53
        rw [ck_t (show mT (wI X m 0 0) m = 13 from LX.1.2.2.1), bd_s (m_no (show mT (wI X m 0 0) m = 13 from LX.1.2.2.1))]
      unfold f_X14_mend b_X14_mend_0
      rw [ck_t LX.1.2.2.1, lw_S, bd_s ((m_isF (X := wI X m 0 0) LX.1.2.2.1 LX.1.2.2.2.1 LX.1.2.2.2.2 xf hF).1 hx), if_neg (show ¬ (1 : Int32) = 0 by decide), ck_t (show mT (wI X m 0 0) m = 13 from LX.1.2.2.1), dr_s (show mR (wI X m 0 0) m 13 = some (m + 24) from x13), ck_t (show mT (wI X m 0 0) (m + 24) = 11 from LX.1.1), dr_s (show mR (wI X m 0 0) (m + 24) 5 = some (m + 24 + 4) from h4.2.2), ck_t (show mT (wI X m 0 0) (m + 24 + 4) = 20 from h4.1), show mL (wI X m 0 0) (m + 24 + 4) = 8 from h4.2.1, ck_t i8, dr_s (show mR (wI X m 0 0) m 11 = some t from LX.1.2.2.2.1), ck_t (show mT (wI X m 0 0) t = 12 from LX.1.2.2.2.2), dr_s (show mR (wI X m 0 0) t 5 = some (t + 3) from hr), ck_t (show mT (wI X m 0 0) (t + 3) = 20 from hd.1), show mL (wI X m 0 0) (t + 3) = 8 from hd.2, ck_t i8]
      have z4 : mI (wI X m 0 0) (m + 24 + 4) (nI f).toNatClampNeg = A (34 + 2 * f) 1 := by rw [nI_clamp (by omega)]; exact st4
      have z5 : mI (wI X m 0 0) (m + 24 + 5) (nI f).toNatClampNeg = A (34 + 2 * f) 4 := by rw [nI_clamp (by omega)]; exact st5
      have z3 : mI (wI X m 0 0) (t + 3) (nI f).toNatClampNeg = A (34 + 2 * f) 0 := by rw [nI_clamp (by omega)]; exact xt
      rw [z4, z3]
      by_cases q : A (34 + 2 * f) 1 = A (34 + 2 * f) 0
      · rw [if_pos q, if_pos q]; exact bad
      · rw [if_neg q, if_neg q, dr_s (show mR (wI X m 0 0) (m + 24) 6 = some (m + 24 + 5) from h5.2.2), ck_t (show mT (wI X m 0 0) (m + 24 + 5) = 20 from h5.1), show mL (wI X m 0 0) (m + 24 + 5) = 8 from h5.2.1, ck_t i8, z5]
        by_cases q2 : 3 ≤ A (34 + 2 * f) 4
        · rw [if_pos q2, if_pos q2, ck_t i8, ck_t i8, lw_S]
          have W1' : wI (wI (wI X m 0 0) (m + 24 + 4) (nI f).toNatClampNeg (A (34 + 2 * f) 0)) (m + 24 + 5) (nI f).toNatClampNeg (A (34 + 2 * f) 4 - 3) = bC 17 (m + 24) (up2 (up2 st 4 f (A (34 + 2 * f) 0)) 5 f (A (34 + 2 * f) 4 - 3)) (wI X m 0 0) := by rw [nI_clamp (by omega)]; exact W1
          have z5' : mI (wI (wI X m 0 0) (m + 24 + 4) (nI f).toNatClampNeg (A (34 + 2 * f) 0)) (m + 24 + 5) (nI f).toNatClampNeg = A (34 + 2 * f) 4 := by rw [wI_o (.inl (by omega))]; exact z5
          rw [dr_s (show mR (wI (wI X m 0 0) (m + 24 + 4) (nI f).toNatClampNeg (A (34 + 2 * f) 0)) m 13 = some (m + 24) from x13), ck_t (show mT (wI (wI X m 0 0) (m + 24 + 4) (nI f).toNatClampNeg (A (34 + 2 * f) 0)) (m + 24) = 11 from LX.1.1), dr_s (show mR (wI (wI X m 0 0) (m + 24 + 4) (nI f).toNatClampNeg (A (34 + 2 * f) 0)) (m + 24) 6 = some (m + 24 + 5) from h5.2.2), ck_t (show mT (wI (wI X m 0 0) (m + 24 + 4) (nI f).toNatClampNeg (A (34 + 2 * f) 0)) (m + 24 + 5) = 20 from h5.1), show mL (wI (wI X m 0 0) (m + 24 + 4) (nI f).toNatClampNeg (A (34 + 2 * f) 0)) (m + 24 + 5) = 8 from h5.2.1, ck_t i8, ck_t i8, z5', W1', lw_S]
          obtain ⟨Y, hY⟩ : ∃ Y, Y = bC 17 (m + 24) (up2 (up2 st 4 f (A (34 + 2 * f) 0)) 5 f (A (34 + 2 * f) 4 - 3)) (wI X m 0 0) := ⟨_, rfl⟩
          rw [← hY]
          rw [dr_s (show mR Y m 13 = some (m + 24) by rw [hY]; exact x13), ck_t (show mT Y (m + 24) = 11 by rw [hY]; exact LX.1.1), dr_s (show mR Y (m + 24) 6 = some (m + 24 + 5) by rw [hY]; exact h5.2.2), ck_t (show mT Y (m + 24 + 5) = 20 by rw [hY]; exact h5.1), show mL Y (m + 24 + 5) = 8 by rw [hY]; exact h5.2.1, ck_t i8]
          rw [nI_clamp (by omega), hY, bC_I (by omega), up2_eq]
        · rw [if_neg q2, if_neg q2]; exact bad
    have ccl : f_X11_mend M b (nI f) = if A (34 + 2 * f) 1 = A (34 + 2 * f) 0 then some (.inl 0, M) else if 3 ≤ A (34 + 2 * f) 4 then some (.inr (A (34 + 2 * f) 4 - 3), sC o (up2 (up2 A (34 + 2 * f) 1 (A (34 + 2 * f) 0)) (34 + 2 * f) 4 (A (34 + 2 * f) 4 - 3)) M) else some (.inl 0, M) := by
      have W0 : ∀ Y, Y = sC o A M → wI (wI Y (o + (34 + 2 * f)) 1 (A (34 + 2 * f) 0)) (o + (34 + 2 * f)) 4 (A (34 + 2 * f) 4 - 3) = sC o (up2 (up2 A (34 + 2 * f) 1 (A (34 + 2 * f) 0)) (34 + 2 * f) 4 (A (34 + 2 * f) 4 - 3)) M := by
        rintro _ rfl
        rw [sC_W (by omega), sC_W (by omega)]
      have W1 := W0 _ cA.symm
      unfold f_X11_mend b_X11_mend_0 b_X11_mend_34
      rw [ck_t c1, bx_s (c_ckF_in c1 c2 c3 g3 hF hf), ck_t c1, dr_s c2, ck_t c3, dr_s (show mR M o 7 = some (o + 2) from (LCo 0 (by omega)).2.2 (by omega) 7), ck_t (show mT M (o + 2) = 24 from (LCo 2 (by omega)).1), show mL M (o + 2) = 8 from (LCo 2 (by omega)).2.1, ck_t (show inb (nI f) 8 from (inbN (by omega)).mpr hf8), nI_clamp (by omega), cRg', dr_S, ck_t cTg', Af 1, Af 0, Af 4]
      by_cases q : A (34 + 2 * f) 1 = A (34 + 2 * f) 0
      · rw [if_pos q, if_pos q]
      · rw [if_neg q, if_neg q]
        by_cases q2 : 3 ≤ A (34 + 2 * f) 4
        · rw [if_pos q2, if_pos q2, lw_S, wI_o (.inr (by decide)), Af 4, W1, lw_S, sC_I (by omega), up2_eq]
        · rw [if_neg q2, if_neg q2]
    have tdf := (TRr.2.2.1 f hf).1
    have no : (f_X11_mend M b (nI f) = some (.inl 0, M) ∧ f_X14_mend M m (nI f) = some (0, wI (wI M m 0 0) m 0 2)) → ∃ r M1 v M2, f_X11_mend M b (nI f) = some (r, M1) ∧ f_X14_mend M1 m (nI f) = some (v, M2) ∧ AGR 2 0 r v (mI M2 m 0) ∧ STv Z b m o o' t n kb T M2 ∧ mN M2 = mN M := fun h => ⟨.inl 0, M, 0, _, h.1, h.2, .inr (.inr ⟨by decide, rfl, wI_e _ _ _ _⟩), STv_0 (STv_0 S), rfl⟩
    have m0 := mm M LA e3 eS x4 (by rw [eI _ (by omega)]; exact tdf)
    by_cases q : A (34 + 2 * f) 1 = A (34 + 2 * f) 0
    · rw [if_pos q] at ccl m0
      exact no ⟨ccl, m0⟩
    · by_cases q2 : 3 ≤ A (34 + 2 * f) 4
      · rw [if_neg q, if_pos q2] at ccl
        obtain ⟨A', hA'⟩ : ∃ A', A' = up2 (up2 A (34 + 2 * f) 1 (A (34 + 2 * f) 0)) (34 + 2 * f) 4 (A (34 + 2 * f) 4 - 3) := ⟨_, rfl⟩
        rw [← hA'] at ccl
        obtain ⟨y1, y2⟩ := STv_y (A' := A') 0 S
        rw [← hst] at y1
        have m1 := mm (sC o A' M) LA e3 y1 (by have := y2 0 4 (by omega); rw [Nat.add_zero] at this; rw [this]; exact TRr.1.2.1) (by rw [y2 3 f (by omega)]; exact tdf)
        rw [if_neg q, if_pos q2] at m1
        refine ⟨_, _, _, _, ccl, m1, .inl ⟨rfl, ?_⟩, ?_, rfl⟩
        · rw [bC_Io (by omega), wI_e]
        · have A'd : ∀ d, d ≠ 34 + 2 * f → A' d = A d := fun d hd => by rw [hA', up2_d hd, up2_d hd]
          have A'k : ∀ k, k ≠ 1 → k ≠ 4 → A' (34 + 2 * f) k = A (34 + 2 * f) k := fun k k1 k4 => by rw [hA', up2_ne (.inr k4), up2_ne (.inr k1)]
          have A'1 : A' (34 + 2 * f) 1 = A (34 + 2 * f) 0 := by rw [hA', up2_ne (.inr (by decide)), up2_eq]
          have A'4 : A' (34 + 2 * f) 4 = A (34 + 2 * f) 4 - 3 := by rw [hA', up2_eq]
          have A'f : ∀ f' k, f' ≠ f ∨ (k ≠ 1 ∧ k ≠ 4) → A' (34 + 2 * f') k = A (34 + 2 * f') k := fun f' k z => by
            by_cases e : f' = f
            · subst e; exact A'k k (z.resolve_left (fun w => w rfl)).1 (z.resolve_left (fun w => w rfl)).2
            · rw [A'd _ (by omega)]
          refine STv_s S h1 (by rw [← hA]; exact P) (by rw [← hA]; exact W) (by rw [← hA]; exact TRr) ?_ (fun d i1 i2 => by rw [← hA]; exact A'd d (by omega)) ?_ ?_ ?_
          · rw [← hA, hA']
            exact eqX_T (eqT_t (eqT_2 (by unfold told; omega)) (eqT_2 (by unfold told; omega)))
          · refine ⟨fun g hg s s1 s2 => ?_, fun f' hf' => ?_⟩
            · rw [A'd _ (by omega)]; exact D.1 g hg s s1 s2
            · have d2 := D.2 f' hf'
              unfold okF at d2 ⊢
              rw [A'f f' 2 (by omega), A'f f' 3 (by omega)]
              refine ⟨?_, d2.2⟩
              by_cases e : f' = f
              · subst e; rw [A'1]; exact V.2.2.2 f' hf'
              · rw [A'f f' 1 (.inl e)]; exact d2.1
          · have s4 : ∀ f', up2 (up2 st 4 f (A (34 + 2 * f) 0)) 5 f (A (34 + 2 * f) 4 - 3) 4 f' = if f' = f then A (34 + 2 * f) 0 else st 4 f' := fun f' => by
              rw [up2_ne (.inl (by decide))]
              by_cases e : f' = f
              · subst e; rw [up2_eq, if_pos rfl]
              · rw [up2_ne (.inr e), if_neg e]
            have s5 : ∀ f', up2 (up2 st 4 f (A (34 + 2 * f) 0)) 5 f (A (34 + 2 * f) 4 - 3) 5 f' = if f' = f then A (34 + 2 * f) 4 - 3 else st 5 f' := fun f' => by
              by_cases e : f' = f
              · subst e; rw [up2_eq, if_pos rfl]
              · rw [up2_ne (.inr e), up2_ne (.inl (by decide)), if_neg e]
            have so : ∀ d, d ≠ 4 → d ≠ 5 → up2 (up2 st 4 f (A (34 + 2 * f) 0)) 5 f (A (34 + 2 * f) 4 - 3) d = st d := fun d d4 d5 => by rw [up2_d d5, up2_d d4]
            obtain ⟨⟨b1, b2, b3, b4⟩, ⟨d1, d2, d3, d4, d5, d6⟩⟩ := R
            refine ⟨⟨?_, fun g k hg hk => ?_, fun g hg => ?_, fun f' hf' => ?_⟩, ⟨?_, fun i i1 i2 => ?_, fun g f' hg hf' => ?_, fun f' hf' => ?_, fun f' i1 i2 => ?_, fun p hp => ?_⟩⟩
            · rw [so 0 (by omega) (by omega), A'd 0 (by omega)]; exact b1
            · rw [so 1 (by omega) (by omega), A'd _ (by omega)]; exact b2 g k hg hk
            · rw [so 2 (by omega) (by omega), A'd _ (by omega)]; exact b3 g hg
            · rw [s4, s5, so 6 (by omega) (by omega), so 9 (by omega) (by omega), A'f f' 5 (by omega), A'f f' 9 (by omega)]
              obtain ⟨u1, u2, u3⟩ := b4 f' hf'
              by_cases e : f' = f
              · subst e; rw [if_pos rfl, if_pos rfl, A'1, A'4]; exact ⟨rfl, rfl, u3⟩
              · rw [if_neg e, if_neg e, A'f f' 1 (.inl e), A'f f' 4 (.inl e)]; exact ⟨u1, u2, u3⟩
            · rw [so 0 (by omega) (by omega), A'd 0 (by omega)]; exact d1
            · rw [so 1 (by omega) (by omega)]; exact d2 i i1 i2
            · rw [so 3 (by omega) (by omega), A'd _ (by omega)]; exact d3 g f' hg hf'
            · rw [so 7 (by omega) (by omega), so 8 (by omega) (by omega), A'f f' 6 (by omega), A'f f' 7 (by omega)]; exact d4 f' hf'
            · rw [s5, if_neg (by omega), so 9 (by omega) (by omega)]; exact d5 f' i1 i2
            · have hp6 : np ≤ 6 := W.2.2.2.2.1.2.1
              rw [so 10 (by omega) (by omega), so 11 (by omega) (by omega), so 12 (by omega) (by omega), A'd _ (by omega)]; exact d6 p hp
          · refine ⟨fun f' hf' => ?_, fun g hg => ?_, fun f' hf' => ?_, fun f' hf' => ?_⟩
            · by_cases e : f' = f
              · subst e
                obtain ⟨a, a1, a2⟩ := V.1 f' hf'
                rw [A'4, a2]
                rw [a2] at q2
                have := (nI_leI (a := 3) (by omega) (by omega)).mp q2
                exact ⟨a - 3, by omega, nI_sub (b := 3) this⟩
              · rw [A'f f' 4 (.inl e)]; exact V.1 f' hf'
            · rw [A'd _ (by omega), V.2.1 g hg]
              exact sumN_c F fun i hi => by rw [A'd _ (by omega)]
            · rw [A'f f' 8 (by omega), V.2.2.1 f' hf', A'd _ (by omega)]
            · rw [A'f f' 0 (by omega)]; exact V.2.2.2 f' hf'
      · rw [if_neg q, if_neg q2] at ccl m0
        exact no ⟨ccl, m0⟩
  · refine ⟨.inl 2, M, 0, wI (wI M m 0 0) m 0 1, ?_, ?_, .inr (.inl ⟨rfl, wI_e _ _ _ _⟩), STv_0 (STv_0 S), rfl⟩
    · unfold f_X11_mend b_X11_mend_0
      rw [ck_t c1, bx_t (c_ckF_out c1 c2 c3 g3 hF hx)]
    · unfold f_X14_mend b_X14_mend_0
      rw [ck_t t13, lw_S, bd_s ((m_isF e1 e2 e4 x4 hF).2 hx), if_pos rfl, ck_t e1, bd_s (m_no e1)]
