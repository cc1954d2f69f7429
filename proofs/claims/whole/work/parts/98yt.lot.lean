/-! ## Pure: lot -/
theorem RS_nz {A A' st : Nat → Nat → Int32} {F G np : Nat} (h : ∀ d, (d < 8 ∨ 11 < d) → A' d = A d) (R : RS A st F G np) : RS A' st F G np := by
  obtain ⟨⟨b1, b2, b3, b4⟩, ⟨d1, d2, d3, d4, d5, d6⟩⟩ := R
  refine ⟨⟨?_, fun g k hg hk => ?_, fun g hg => ?_, fun f' hf' => ?_⟩, ⟨?_, d2, fun g f' hg hf' => ?_, fun f' hf' => ?_, d5, fun p hp => ?_⟩⟩
  · rw [h 0 (by omega)]; exact b1
  · rw [h (19 + 2 * g) (by omega)]; exact b2 g k hg hk
  · rw [h (18 + 2 * g) (by omega)]; exact b3 g hg
  · rw [h (34 + 2 * f') (by omega)]; exact b4 f' hf'
  · rw [h 0 (by omega)]; exact d1
  · rw [h (35 + 2 * f') (by omega)]; exact d3 g f' hg hf'
  · rw [h (34 + 2 * f') (by omega)]; exact d4 f' hf'
  · rw [h (74 + 2 * p) (by omega)]; exact d6 p hp
theorem nz_rows {A A' : Nat → Nat → Int32} (h : nz A' = nz A) : ∀ d, (d < 8 ∨ 11 < d) → A' d = A d := fun d hd => by
  rw [← nz_e (sg := A') hd, h, nz_e hd]
theorem T_lot {Z : Nat → Nat} {b m o o' t n kb : Nat} {T : Nat → Nat} {M : gMem} {x : Int32} (S : STv Z b m o o' t n kb T M) : ∃ r M1 v M2, f_X11_lot M b x = some (r, M1) ∧ f_X14_lot M1 m x = some (v, M2) ∧ AGR 2 9 r v (mI M2 m 0) ∧ STv Z b m o o' t n kb T M2 ∧ mN M2 = mN M := by
  obtain ⟨c1, c2, LCo, c3, cA⟩ := STv_c S
  obtain ⟨e1, e2, e3, LA, eS, eI, e4, e5, e6⟩ := STv_m 0 S
  obtain ⟨pg, len, F, G, np, nO, ⟨h1, P, W, D, TRr, R, V⟩, hG, hF, g2, g3, x0, x4, t13⟩ := STv_w S
  by_cases hx : ∃ a, a < F ∧ x = nI a
  · have xx := hx
    obtain ⟨f, hf, hxf⟩ := xx
    subst hxf
    have i8 : inb (nI f) 8 := (inbN (by omega)).mpr (by omega)
    obtain ⟨A, hA⟩ : ∃ A, A = cutF 86 o M := ⟨_, rfl⟩
    rw [← hA] at cA P W D TRr R V
    obtain ⟨st, hst⟩ : ∃ st, st = cutF 17 (m + 24) M := ⟨_, rfl⟩
    rw [← hst] at R eS
    obtain ⟨A', dr1, nzA, lt1⟩ := s7_draw (M := M) LCo W.2.2.1 hF
    rw [cA] at dr1
    have hz := nz_rows nzA
    have z := (in_bnd2 (x := nI f) (n := F) (by omega)).mpr ⟨f, hf, rfl⟩
    have ccl : f_X11_lot M b (nI f) = some (.inr (nI (ltA F (A 0 1) f)), sC o A' M) := by
      unfold f_X11_lot b_X11_lot_0
      rw [if_neg z.1, ck_t c1, dr_s c2, ck_t c3, g3, if_pos z.2, bd_s dr1, ck_t (show mT (sC o A' M) b = 10 from c1), dr_s (show mR (sC o A' M) b 1 = some o from c2), ck_t (show mT (sC o A' M) o = 7 from c3), dr_s (show mR (sC o A' M) o 11 = some (o + 9) from (LCo 0 (by omega)).2.2 (by omega) 11), ck_t (show mT (sC o A' M) (o + 9) = 20 from (LCo 9 (by omega)).1), show mL (sC o A' M) (o + 9) = 8 from (LCo 9 (by omega)).2.1, ck_t i8, nI_clamp (by omega), sC_I (by omega), lt1 f hf]
    obtain ⟨y1, y2⟩ := STv_y (A' := A') 0 S
    rw [← hst] at y1
    have S' := id S
    obtain ⟨s0, ⟨-, oo, -, ⟨L1, L2, F1, F2, P1, P2⟩, cN⟩, ⟨-, ⟨-, -, m14⟩, ⟨-, LB⟩, ⟨v1, v2, v3, v4⟩⟩, -, -⟩ := S'
    obtain ⟨X, hX⟩ : ∃ X, X = wI (sC o A' M) m 0 0 := ⟨_, rfl⟩
    rw [← hX] at y1
    have LX : LSt m t (m + 24) X := by rw [hX]; exact LA
    have LY : LSt m t (m + 41) X := by rw [hX]; exact LB
    have mR13 : mR X m 13 = some (m + 24) := by rw [hX]; exact e3
    have mR14 : mR X m 14 = some (m + 41) := by rw [hX]; exact m14
    have xf : mI X t 4 = nI F := by have := y2 0 4 (by omega); rw [Nat.add_zero] at this; rw [hX, this]; exact TRr.1.2.1
    have l1 : mI X (m + 24) 1 = A 0 1 := by
      have := congrArg (fun Y => mI Y (m + 24) 1) y1
      show mI X (m + 24) 1 = _
      rw [← this]
      show mI (bC 17 (m + 24) st X) (m + 24) 1 = _
      rw [bC_I0 (by omega)]; exact R.2.1
    obtain ⟨st2, hst2⟩ : ∃ st2, st2 = up2 (cutF 17 (m + 41) X) 0 1 (A 0 1) := ⟨_, rfl⟩
    have W1 : wI X (m + 41) 1 (A 0 1) = bC 17 (m + 41) st2 X := by
      have W0 : ∀ Y, Y = bC 17 (m + 41) (cutF 17 (m + 41) X) X → wI Y (m + 41) 1 (A 0 1) = bC 17 (m + 41) st2 X := by
        rintro _ rfl
        rw [bC_W0 (by omega), hst2]
      exact W0 _ bC_cut.symm
    obtain ⟨st3, dr2, -, -, lt2⟩ := r_draw (st := st2) LY xf hF
    have s01 : st2 0 1 = A 0 1 := by rw [hst2, up2_eq]
    rw [s01] at lt2
    have h13 := LY.2.2.1 13 (by omega) (by omega)
    obtain ⟨Y, hY⟩ : ∃ Y, Y = bC 17 (m + 41) st3 X := ⟨_, rfl⟩
    have yO : ∀ a, a < mN M → a ≠ m → ¬ (o ≤ a ∧ a < o + 86) → ¬ (m + 41 ≤ a ∧ a < m + 58) → mI Y a = mI M a := fun a _ i1 i2 i3 => by
      funext k
      rw [hY, bC_Io (by omega), hX, wI_o (.inl i1), sC_Io (by omega)]
    have yA : ∀ d, d < 86 → mI Y (o + d) = A' d := fun d hd => by
      funext k
      rw [hY, bC_Io (by omega), hX, wI_o (.inl (by omega)), sC_I hd]
    have oT : mT Y = mT M := by rw [hY, hX]; rfl
    have oL : mL Y = mL M := by rw [hY, hX]; rfl
    have oR : mR Y = mR M := by rw [hY, hX]; rfl
    have oN : mN Y = mN M := by rw [hY, hX]; rfl
    have hE : eqX (cutF 86 o M) A' := fun d k z => by
      rw [← hA, hz d (by unfold toldX told at z; omega)]
    have D' : WD A' F G := by
      refine ⟨fun g hg s s1 s2 => ?_, fun f' hf' => ?_⟩
      · rw [hz _ (by omega)]; exact D.1 g hg s s1 s2
      · have d2 := D.2 f' hf'
        unfold okF at d2 ⊢
        rw [hz _ (by omega)]; exact d2
    refine ⟨_, _, nI (ltA F (A 0 1) f), Y, ccl, ?_, .inl ⟨rfl, ?_⟩, ?_, oN⟩
    · unfold f_X14_lot b_X14_lot_0 b_X14_lot_26
      have lo : f_X14_lotOf X m (nI f) = some (nI (ltA F (A 0 1) f), Y) := by
        unfold f_X14_lotOf b_X14_lotOf_0
        rw [ck_t LX.1.2.2.1, dr_s mR13, ck_t LX.1.1, dr_s mR14, ck_t LY.1.1, l1, W1, lw_S, dr_s (show mR (bC 17 (m + 41) st2 X) m 14 = some (m + 41) from mR14), ck_t (show mT (bC 17 (m + 41) st2 X) (m + 41) = 11 from LY.1.1), bd_s dr2, ← hY, ck_t (show mT Y m = 13 by rw [hY]; exact LX.1.2.2.1), dr_s (show mR Y m 14 = some (m + 41) by rw [hY]; exact mR14), ck_t (show mT Y (m + 41) = 11 by rw [hY]; exact LY.1.1), dr_s (show mR Y (m + 41) 14 = some (m + 41 + 13) by rw [hY]; exact h13.2.2), ck_t (show mT Y (m + 41 + 13) = 20 by rw [hY]; exact h13.1), show mL Y (m + 41 + 13) = 8 by rw [hY]; exact h13.2.1, ck_t i8, nI_clamp (by omega)]
        have rd : mI Y (m + 41 + 13) f = nI (ltA F (A 0 1) f) := by rw [hY, bC_I (by omega), lt2 f hf]
        rw [rd]
      rw [ck_t (show mT (sC o A' M) m = 13 from t13), lw_S, ← hX, bd_s ((m_isF LX.1.2.2.1 LX.1.2.2.2.1 LX.1.2.2.2.2 xf hF).1 hx), if_neg (show ¬ (1 : Int32) = 0 by decide), ck_t LX.1.2.2.1, bd_s lo]
    · rw [hY, bC_Io (by omega), hX, wI_e]
    · refine STv_u S (fun a _ => ⟨by rw [oT], by rw [oL], fun _ => by rw [oR]⟩) (fun a i0 i1 i2 i3 => yO a i0 i1 (by omega) (by omega)) (fun k hk => ?_) ⟨FRS_e F1 fun d i1 i2 => ?_, FRS_e F2 fun d i1 i2 => yO _ (by omega) (by omega) (by omega) (by omega), eqX_PSz P1 hE yA, PSz_e P2 fun d i1 i2 => yO _ (by omega) (by omega) (by omega) (by omega)⟩ (REL_u (st' := st) h1 (by rw [← hA]; exact P) (by rw [← hA]; exact W) (by rw [← hA]; exact TRr) hE yA (fun d hd => ?_) (by rw [oR]) (fun j hj => yO _ (by omega) (by omega) (by omega) (by omega)) D' (RS_nz hz R) (SVa_cg (fun d i1 i2 => hz d (by omega)) hF hG V)) (by omega)
      · rw [hY, bC_Io (by omega), hX, wI_o (.inr hk), sC_Io (by omega)]
      · rw [yA d (by omega), hz d (by omega), hA, cutF_e (by omega)]
      · rw [yO _ (by omega) (by omega) (by omega) (by omega), hst, cutF_e hd]
  · refine ⟨.inl 2, M, 0, wI (wI M m 0 0) m 0 1, ?_, ?_, .inr (.inl ⟨rfl, wI_e _ _ _ _⟩), STv_0 (STv_0 S), rfl⟩
    · unfold f_X11_lot b_X11_lot_0 b_X11_lot_15
      by_cases q : x < 0
      · rw [if_pos q]
      · rw [if_neg q, ck_t c1, dr_s c2, ck_t c3, g3, if_neg (fun z => hx ((in_bnd2 (by omega)).mp ⟨q, z⟩))]
    · unfold f_X14_lot b_X14_lot_0 b_X14_lot_26
      rw [ck_t t13, lw_S, bd_s ((m_isF e1 e2 e4 x4 hF).2 hx), if_pos rfl, ck_t e1, bd_s (m_no e1)]
