/-! ## Pure: cheat -/
theorem sumN_ext {f : Nat → Int32} {n : Nat} : ∀ k, n ≤ k → (∀ i, n ≤ i → i < k → f i = 0) → sumN f k = sumN f n
  | 0, h, _ => by rw [show n = 0 by omega]
  | k + 1, h, z => by
    by_cases e : n = k + 1
    · rw [e]
    · rw [sumN, z k (by omega) (by omega), sumN_ext k (by omega) fun i i1 i2 => z i i1 (by omega)]
      exact Int32.add_zero _
theorem RS_chs {A st : Nat → Nat → Int32} {F G np : Nat} (hF : F ≤ 8) (R : RS A st F G np) : sumN (st 9) (lenS 9) = sumN (fun i => if A (34 + 2 * i) 9 = nI 0 then (0 : Int32) else 1) F := by
  rw [show lenS 9 = 8 from rfl, sumN_ext (n := F) 8 hF fun i i1 i2 => (R.2.2.2.2.2.1 i i1 i2).2]
  refine sumN_c F fun i hi => ?_
  obtain ⟨-, -, -, r4, r5⟩ := R.1.2.2.2 i hi
  rw [r4]
  rcases r5 with e | e
  · rw [e, if_pos (show (0 : Int32) = nI 0 from rfl)]
  · rw [e, if_neg (show ¬ (1 : Int32) = nI 0 by decide)]
theorem T_cheat {Z : Nat → Nat} {b m o o' t n kb : Nat} {T : Nat → Nat} {M : gMem} {x y : Int32} (S : STv Z b m o o' t n kb T M) (hy : y = 0 ∨ y = 1) : ∃ r M1 v M2, f_X11_cheat M b x y = some (r, M1) ∧ f_X14_cheat M1 m x y = some (v, M2) ∧ AGR 2 9 r v (mI M2 m 0) ∧ STv Z b m o o' t n kb T M2 ∧ mN M2 = mN M := by
  obtain ⟨c1, c2, LCo, c3, cA⟩ := STv_c S
  obtain ⟨e1, e2, e3, LA, eS, eI, e4, e5, e6⟩ := STv_m 0 S
  obtain ⟨pg, len, F, G, np, nO, ⟨h1, P, W, D, TRr, R, V⟩, hG, hF, g2, g3, x0, x4, t13⟩ := STv_w S
  by_cases hx : ∃ a, a < F ∧ x = nI a
  · have xx := hx
    obtain ⟨f, hf, hxf⟩ := xx
    subst hxf
    have hf8 : f < 8 := by omega
    obtain ⟨A, hA⟩ : ∃ A, A = cutF 86 o M := ⟨_, rfl⟩
    rw [← hA] at cA P W D TRr R V
    obtain ⟨st, hst⟩ : ∃ st, st = cutF 17 (m + 24) M := ⟨_, rfl⟩
    rw [← hst] at R eS
    have cRg' : mR M (o + 2) f = some (o + (34 + 2 * f)) := by rw [← cA]; exact cRrf LCo hf8
    have cTg' : mT M (o + (34 + 2 * f)) = 1 := by rw [← cA]; exact cTf LCo hf8
    have i8 : inb (nI f) 8 := (inbN (by omega)).mpr hf8
    obtain ⟨A', hA'⟩ : ∃ A', A' = up2 A (34 + 2 * f) 9 y := ⟨_, rfl⟩
    obtain ⟨st', hst'⟩ : ∃ st', st' = up2 st 9 f y := ⟨_, rfl⟩
    have A'd : ∀ d, d ≠ 34 + 2 * f → A' d = A d := fun d hd => by rw [hA', up2_d hd]
    have A'9 : A' (34 + 2 * f) 9 = y := by rw [hA', up2_eq]
    have A'f : ∀ f' k, f' ≠ f ∨ k ≠ 9 → A' (34 + 2 * f') k = A (34 + 2 * f') k := fun f' k z => by
      by_cases e : f' = f
      · subst e; rw [hA', up2_ne (.inr (z.resolve_left (fun w => w rfl)))]
      · rw [A'd _ (by omega)]
    have so : ∀ d, d ≠ 9 → st' d = st d := fun d d9 => by rw [hst', up2_d d9]
    have s9 : ∀ f', st' 9 f' = if f' = f then y else st 9 f' := fun f' => by
      rw [hst']
      by_cases e : f' = f
      · subst e; rw [up2_eq, if_pos rfl]
      · rw [up2_ne (.inr e), if_neg e]
    have hp6 : np ≤ 6 := W.2.2.2.2.1.2.1
    have R' : RS A' st' F G np := by
      obtain ⟨⟨b1, b2, b3, b4⟩, ⟨d1, d2, d3, d4, d5, d6⟩⟩ := R
      refine ⟨⟨?_, fun g k hg hk => ?_, fun g hg => ?_, fun f' hf' => ?_⟩, ⟨?_, fun i i1 i2 => ?_, fun g f' hg hf' => ?_, fun f' hf' => ?_, fun f' i1 i2 => ?_, fun p hp => ?_⟩⟩
      · rw [so 0 (by omega), A'd 0 (by omega)]; exact b1
      · rw [so 1 (by omega), A'd _ (by omega)]; exact b2 g k hg hk
      · rw [so 2 (by omega), A'd _ (by omega)]; exact b3 g hg
      · rw [so 4 (by omega), so 5 (by omega), so 6 (by omega), s9, A'f f' 1 (by omega), A'f f' 4 (by omega), A'f f' 5 (by omega)]
        obtain ⟨u1, u2, u3, u4, u5⟩ := b4 f' hf'
        refine ⟨u1, u2, u3, ?_⟩
        by_cases e : f' = f
        · subst e; rw [if_pos rfl, A'9]; exact ⟨rfl, hy⟩
        · rw [if_neg e, A'f f' 9 (.inl e)]; exact ⟨u4, u5⟩
      · rw [so 0 (by omega), A'd 0 (by omega)]; exact d1
      · rw [so 1 (by omega)]; exact d2 i i1 i2
      · rw [so 3 (by omega), A'd _ (by omega)]; exact d3 g f' hg hf'
      · rw [so 7 (by omega), so 8 (by omega), A'f f' 6 (by omega), A'f f' 7 (by omega)]; exact d4 f' hf'
      · rw [so 5 (by omega), s9, if_neg (by omega)]; exact d5 f' i1 i2
      · rw [so 10 (by omega), so 11 (by omega), so 12 (by omega), A'd _ (by omega)]; exact d6 p hp
    obtain ⟨v, hv⟩ : ∃ v, v = sumN (fun i => if A' (34 + 2 * i) 9 = nI 0 then (0 : Int32) else 1) F := ⟨_, rfl⟩
    have ccl : f_X11_cheat M b (nI f) y = some (.inr v, sC o A' M) := by
      have W0 : ∀ Y, Y = sC o A M → wI Y (o + (34 + 2 * f)) 9 y = sC o A' M := by
        rintro _ rfl
        rw [sC_W (by omega), hA']
      have W1 := W0 _ cA.symm
      unfold f_X11_cheat b_X11_cheat_0
      rw [ck_t c1, bx_s (c_ckF_in c1 c2 c3 g3 hF hf), ck_t c1, dr_s c2, ck_t c3, dr_s (show mR M o 7 = some (o + 2) from (LCo 0 (by omega)).2.2 (by omega) 7), ck_t (show mT M (o + 2) = 24 from (LCo 2 (by omega)).1), show mL M (o + 2) = 8 from (LCo 2 (by omega)).2.1, ck_t i8, nI_clamp (by omega), cRg', dr_S, ck_t cTg', ck_t hy, W1, lw_S, dr_s (show mR (sC o A' M) b 1 = some o from c2), ck_t (show mT (sC o A' M) o = 7 from c3), bd_s (s7_allCheats LCo (by rw [A'd 0 (by omega)]; exact W.2.2.1) hF), ← hv]
    obtain ⟨y1, y2⟩ := STv_y (A' := A') 0 S
    rw [← hst] at y1
    obtain ⟨X, hX⟩ : ∃ X, X = wI (sC o A' M) m 0 0 := ⟨_, rfl⟩
    have LX : LSt m t (m + 24) X := by rw [hX]; exact LA
    have mR13 : mR X m 13 = some (m + 24) := by rw [hX]; exact e3
    have xf : mI X t 4 = nI F := by have := y2 0 4 (by omega); rw [Nat.add_zero] at this; rw [hX, this]; exact TRr.1.2.1
    rw [← hX] at y1
    have h9 := LX.2.2.1 9 (by omega) (by omega)
    have ms : ∀ z, z = y → b_X14_cheat_36 X m (mR X (m + 24) 10) (nI f) z = some (v, bC 17 (m + 24) st' X) := by
      intro z hz
      rw [hz]
      have W0 : ∀ Y, Y = bC 17 (m + 24) st X → wI Y (m + 24 + 9) f y = bC 17 (m + 24) st' X := by
        rintro _ rfl
        rw [bC_W (by omega), hst']
      have W1 := W0 _ y1.symm
      unfold b_X14_cheat_36
      have L' : LSt m t (m + 24) (bC 17 (m + 24) st' X) := LX
      rw [dr_s h9.2.2, ck_t h9.1, h9.2.1, ck_t (show inb (nI f) (lenS 9) from i8), nI_clamp (by omega), W1, lw_S, ck_t (show mT (bC 17 (m + 24) st' X) m = 13 from LX.1.2.2.1), dr_s (show mR (bC 17 (m + 24) st' X) m 13 = some (m + 24) from mR13), ck_t (show mT (bC 17 (m + 24) st' X) (m + 24) = 11 from LX.1.1), show mR (bC 17 (m + 24) st' X) (m + 24) 10 = some (m + 24 + 9) from h9.2.2, bd_s (r_sum LX (by omega) (by omega)), RS_chs hF R', hv]
    refine ⟨_, _, v, bC 17 (m + 24) st' X, ccl, ?_, .inl ⟨rfl, ?_⟩, ?_, by rw [hX]; rfl⟩
    · unfold f_X14_cheat b_X14_cheat_0
      rw [ck_t (show mT (sC o A' M) m = 13 from t13), lw_S, ← hX, bd_s ((m_isF LX.1.2.2.1 LX.1.2.2.2.1 LX.1.2.2.2.2 xf hF).1 hx), if_neg (show ¬ (1 : Int32) = 0 by decide), ck_t LX.1.2.2.1, dr_s mR13, ck_t LX.1.1]
      rcases hy with e | e
      · rw [if_pos e]; exact ms 0 e.symm
      · rw [if_neg (by rw [e]; decide)]; exact ms 1 e.symm
    · rw [bC_Io (by omega), hX, wI_e]
    · rw [hX]
      refine STv_s S h1 (by rw [← hA]; exact P) (by rw [← hA]; exact W) (by rw [← hA]; exact TRr) ?_ (fun d i1 i2 => by rw [← hA]; exact A'd d (by omega)) ?_ R' ?_
      · intro d k z
        rw [← hA, hA']
        refine up2_ne ?_
        unfold toldX at z
        omega
      · refine ⟨fun g hg s s1 s2 => ?_, fun f' hf' => ?_⟩
        · rw [A'd _ (by omega)]; exact D.1 g hg s s1 s2
        · have d2 := D.2 f' hf'
          unfold okF at d2 ⊢
          rw [A'f f' 1 (by omega), A'f f' 2 (by omega), A'f f' 3 (by omega)]
          exact d2
      · refine ⟨fun f' hf' => ?_, fun g hg => ?_, fun f' hf' => ?_, fun f' hf' => ?_⟩
        · rw [A'f f' 4 (by omega)]; exact V.1 f' hf'
        · rw [A'd _ (by omega), V.2.1 g hg]
          exact sumN_c F fun i hi => by rw [A'd _ (by omega)]
        · rw [A'f f' 8 (by omega), V.2.2.1 f' hf', A'd _ (by omega)]
        · rw [A'f f' 0 (by omega)]; exact V.2.2.2 f' hf'
  · refine ⟨.inl 2, M, 0, wI (wI M m 0 0) m 0 1, ?_, ?_, .inr (.inl ⟨rfl, wI_e _ _ _ _⟩), STv_0 (STv_0 S), rfl⟩
    · unfold f_X11_cheat b_X11_cheat_0
      rw [ck_t c1, bx_t (c_ckF_out c1 c2 c3 g3 hF hx)]
    · unfold f_X14_cheat b_X14_cheat_0
      rw [ck_t t13, lw_S, bd_s ((m_isF e1 e2 e4 x4 hF).2 hx), if_pos rfl, ck_t e1, bd_s (m_no e1)]
