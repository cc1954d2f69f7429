/-! ## Pure: fisher, took, blame, gap -/
theorem STv_w {Z : Nat → Nat} {b m o o' t n kb : Nat} {T : Nat → Nat} {M : gMem} (S : STv Z b m o o' t n kb T M) : ∃ pg len F G np nO, (len ≤ 400 ∧ PG Z pg o len M (cutF 86 o M) ∧ WS (cutF 86 o M) F G np nO ∧ WD (cutF 86 o M) F G ∧ TR pg len (cutF 86 o M) M t F G np nO ∧ RS (cutF 86 o M) (cutF 17 (m + 24) M) F G np ∧ SVa kb (cutF 86 o M) F G) ∧ G ≤ 8 ∧ F ≤ 8 ∧ mI M o 2 = nI G ∧ mI M o 3 = nI F ∧ mI (wI M m 0 0) t 0 = nI G ∧ mI (wI M m 0 0) t 4 = nI F ∧ mT M m = 13 := by
  obtain ⟨pg, len, F, G, np, nO, h1, h2, W, D, TRr, R, V⟩ := S.2.2.2.1
  have A0 : mI M o = cutF 86 o M 0 := (cutF_e (n := 86) (d := 0) (by omega)).symm
  have e := (STv_m 0 S).2.2.2.2.2.1
  have e6 := (STv_m 0 S).2.2.2.2.2.2.2.2
  exact ⟨pg, len, F, G, np, nO, ⟨h1, h2, W, D, TRr, R, V⟩, W.2.1, W.2.2.2.1, by rw [A0]; exact W.1, by rw [A0]; exact W.2.2.1, by rw [e t (by omega)]; exact TRr.1.1, by rw [e t (by omega)]; exact TRr.1.2.1, S.2.2.1.1.1.1⟩
theorem T_fisher {Z : Nat → Nat} {b m o o' t n kb : Nat} {T : Nat → Nat} {M : gMem} {x y : Int32} (S : STv Z b m o o' t n kb T M) : ∃ r v M2, f_X11_fisher M b x y = some (r, M) ∧ f_X14_fisher M m x y = some (v, M2) ∧ AGR 2 9 r v (mI M2 m 0) ∧ STv Z b m o o' t n kb T M2 ∧ mN M ≤ mN M2 ∧ mN M2 ≤ mN M + 1 := by
  obtain ⟨c1, c2, LCo, c3, cA⟩ := STv_c S
  obtain ⟨e1, e2, e3, LA, eS, eI, e4, e5, e6⟩ := STv_m 0 S
  obtain ⟨pg, len, F, G, np, nO, ⟨-, -, W, D, TRr, R, V⟩, hG, hF, g2, g3, x0, x4, t13⟩ := STv_w S
  have tI : ∀ j, mI (wI M m 0 0) (t + j) = mI M (t + j) := fun j => eI _ (by omega)
  have bad : b_X14_fisher_32 (wI M m 0 0) m = some (0, wI (wI M m 0 0) m 0 1) := by
    unfold b_X14_fisher_32 b_X14_fisher_37
    rw [ck_t e1, bd_s (m_no e1)]
  by_cases hx : ∃ a, a < F ∧ x = nI a
  · have xx := hx
    obtain ⟨g, hg, hxg⟩ := xx
    subst hxg
    by_cases hy : ∃ c, c < 10 ∧ y = nI c
    · have yy := hy
      obtain ⟨c, hc, hyc⟩ := yy
      subst hyc
      obtain ⟨vs, mg⟩ := m_fv (c := c) (A := cutF 86 o M) LA e3 eS (show m + 41 ≤ mN M by have := S.2.2.1.2.2.2; omega) (show t + 17 ≤ mN M by have := S.2.2.1.2.2.2; omega) x0 hF hG hg (by rw [tI 3, tI 4, tI 5]; exact TRr.2.2.1 g hg) R (V.2.2.1 g hg) hc
      have a0 : mI (aN (wI M m 0 0) 10 vs 10) m 0 = 0 := by rw [(aN_o (X := wI M m 0 0) 10 (show m < mN M by have := S.2.2.1.2.2.2; omega)).2.2.2, wI_e]
      have aM : mN (aN (wI M m 0 0) 10 vs 10) = mN M + 1 := (aN_f 10).2.2.2.1
      refine ⟨.inr (fvA (cutF 86 o M) g c), fvA (cutF 86 o M) g c, aN (wI M m 0 0) 10 vs 10, c_fv LCo c1 c2 g3 hF hg hc (R.1.2.2.2 g hg).2.2.2.2, ?_, .inl ⟨rfl, a0⟩, STv_aN (STv_0 S), by omega, by omega⟩
      unfold f_X14_fisher b_X14_fisher_0
      rw [ck_t t13, lw_S, bd_s ((m_isF e1 e2 e4 x4 hF).1 hx), if_neg (show ¬ (1 : Int32) = 0 by decide), bd_s ((m_inC (n := 10) (by decide) (by omega)).1 hy), if_neg (show ¬ (1 : Int32) = 0 by decide), ck_t e1, bd_s mg]
      rfl
    · have ny : ∀ c, c < 10 → ¬ y = nI c := fun c h z => hy ⟨c, h, z⟩
      refine ⟨.inl 2, 0, wI (wI M m 0 0) m 0 1, ?_, ?_, .inr (.inl ⟨rfl, wI_e _ _ _ _⟩), STv_0 (STv_0 S), Nat.le_refl _, Nat.le_succ _⟩
      · unfold f_X11_fisher b_X11_fisher_0
        have hg8 : g < 8 := by omega
        rw [ck_t c1, bx_s (c_ckF_in c1 c2 c3 g3 hF hg), ck_t c1, dr_s c2, ck_t c3, dr_s (show mR M o 7 = some (o + 2) from (LCo 0 (by omega)).2.2 (by omega) 7), ck_t (show mT M (o + 2) = 24 from (LCo 2 (by omega)).1), show mL M (o + 2) = 8 from (LCo 2 (by omega)).2.1, ck_t (show inb (nI g) 8 from (inbN (by omega)).mpr hg8), if_neg (show ¬ y = (0 : Int32) from ny 0 (by omega)), if_neg (show ¬ y = (1 : Int32) from ny 1 (by omega)), if_neg (show ¬ y = (2 : Int32) from ny 2 (by omega)), if_neg (show ¬ y = (3 : Int32) from ny 3 (by omega)), if_neg (show ¬ y = (4 : Int32) from ny 4 (by omega)), if_neg (show ¬ y = (5 : Int32) from ny 5 (by omega)), if_neg (show ¬ y = (6 : Int32) from ny 6 (by omega)), if_neg (show ¬ y = (7 : Int32) from ny 7 (by omega)), if_neg (show ¬ y = (8 : Int32) from ny 8 (by omega)), if_neg (show ¬ y = (9 : Int32) from ny 9 (by omega))]
      · unfold f_X14_fisher b_X14_fisher_0
        rw [ck_t t13, lw_S, bd_s ((m_isF e1 e2 e4 x4 hF).1 hx), if_neg (show ¬ (1 : Int32) = 0 by decide), bd_s ((m_inC (n := 10) (by decide) (by omega)).2 hy), if_pos rfl]
        exact bad
  · refine ⟨.inl 2, 0, wI (wI M m 0 0) m 0 1, ?_, ?_, .inr (.inl ⟨rfl, wI_e _ _ _ _⟩), STv_0 (STv_0 S), Nat.le_refl _, Nat.le_succ _⟩
    · unfold f_X11_fisher b_X11_fisher_0
      rw [ck_t c1, bx_t (c_ckF_out c1 c2 c3 g3 hF hx)]
    · unfold f_X14_fisher b_X14_fisher_0
      rw [ck_t t13, lw_S, bd_s ((m_isF e1 e2 e4 x4 hF).2 hx), if_pos rfl]
      exact bad
theorem T_took {Z : Nat → Nat} {b m o o' t n kb : Nat} {T : Nat → Nat} {M : gMem} {x y : Int32} (S : STv Z b m o o' t n kb T M) : ∃ r v M2, f_X11_took M b x y = some (r, M) ∧ f_X14_took M m x y = some (v, M2) ∧ AGR 2 9 r v (mI M2 m 0) ∧ STv Z b m o o' t n kb T M2 ∧ mN M2 = mN M := by
  obtain ⟨c1, c2, LCo, c3, cA⟩ := STv_c S
  obtain ⟨e1, e2, e3, LA, eS, eI, e4, e5, e6⟩ := STv_m 0 S
  obtain ⟨pg, len, F, G, np, nO, ⟨-, -, W, D, TRr, R, V⟩, hG, hF, g2, g3, x0, x4, t13⟩ := STv_w S
  have bad : b_X14_took_38 (wI M m 0 0) m = some (0, wI (wI M m 0 0) m 0 1) := by
    unfold b_X14_took_38 b_X14_took_43
    rw [ck_t e1, bd_s (m_no e1)]
  by_cases hx : ∃ a, a < G ∧ x = nI a
  · have xx := hx
    obtain ⟨g, hg, hxg⟩ := xx
    subst hxg
    by_cases hy : ∃ c, c < F ∧ y = nI c
    · have yy := hy
      obtain ⟨f, hf, hyf⟩ := yy
      subst hyf
      have hf8 : f < 8 := by omega
      have cRg' : mR M (o + 2) f = some (o + (34 + 2 * f)) := by rw [← cA]; exact cRrf LCo hf8
      have cTg' : mT M (o + (34 + 2 * f)) = 1 := by rw [← cA]; exact cTf LCo hf8
      have cRf' : mR M (o + (34 + 2 * f)) 10 = some (o + (35 + 2 * f)) := by rw [← cA]; exact cRf LCo hf8
      have l := LCo (35 + 2 * f) (by omega)
      have cT' : mT M (o + (35 + 2 * f)) = 20 := l.1.trans ((by decide : ∀ i, i < 8 → layT (35 + 2 * i) = 20) f hf8)
      have cL' : mL M (o + (35 + 2 * f)) = 8 := l.2.1.trans ((by decide : ∀ i, i < 8 → layL (35 + 2 * i) = 8) f hf8)
      have Af : mI M (o + (35 + 2 * f)) = cutF 86 o M (35 + 2 * f) := (cutF_e (by omega)).symm
      have h3 := LA.2.2.1 3 (by omega) (by omega)
      have st3 : mI (wI M m 0 0) (m + 24 + 3) (8 * g + f) = cutF 17 (m + 24) M 3 (8 * g + f) := by rw [← eS, bC_I (by omega)]
      refine ⟨.inr (cutF 86 o M (35 + 2 * f) g), cutF 86 o M (35 + 2 * f) g, wI M m 0 0, ?_, ?_, .inl ⟨rfl, wI_e _ _ _ _⟩, STv_0 S, rfl⟩
      · unfold f_X11_took b_X11_took_0
        rw [ck_t c1, bx_s (c_ckG_in c1 c2 c3 g2 hG hg), ck_t c1, bx_s (c_ckF_in c1 c2 c3 g3 hF hf), ck_t c1, dr_s c2, ck_t c3, dr_s (show mR M o 7 = some (o + 2) from (LCo 0 (by omega)).2.2 (by omega) 7), ck_t (show mT M (o + 2) = 24 from (LCo 2 (by omega)).1), show mL M (o + 2) = 8 from (LCo 2 (by omega)).2.1, ck_t (show inb (nI f) 8 from (inbN (by omega)).mpr hf8), nI_clamp (by omega), cRg', dr_S, ck_t cTg', dr_s cRf', ck_t cT', cL', ck_t (show inb (nI g) 8 from (inbN (by omega)).mpr (by omega)), nI_clamp (by omega), Af]
      · unfold f_X14_took b_X14_took_0 b_X14_took_43
        rw [ck_t t13, lw_S, bd_s ((m_isG e1 e2 e4 x0 hG).1 hx), if_neg (show ¬ (1 : Int32) = 0 by decide), ck_t e1, bd_s ((m_isF e1 e2 e4 x4 hF).1 hy), if_neg (show ¬ (1 : Int32) = 0 by decide), ck_t e1, dr_s e3, ck_t e5, dr_s h3.2.2, ck_t h3.1, h3.2.1, m8, nI_add, ck_t (show inb (nI (8 * g + f)) (lenS 3) from (inbN (by omega)).mpr (show _ < 64 by omega)), nI_clamp (by omega), st3, R.2.2.2.1 g f hg hf]
    · refine ⟨.inl 2, 0, wI (wI M m 0 0) m 0 1, ?_, ?_, .inr (.inl ⟨rfl, wI_e _ _ _ _⟩), STv_0 (STv_0 S), rfl⟩
      · unfold f_X11_took b_X11_took_0
        rw [ck_t c1, bx_s (c_ckG_in c1 c2 c3 g2 hG hg), ck_t c1, bx_t (c_ckF_out c1 c2 c3 g3 hF hy)]
      · unfold f_X14_took b_X14_took_0
        rw [ck_t t13, lw_S, bd_s ((m_isG e1 e2 e4 x0 hG).1 hx), if_neg (show ¬ (1 : Int32) = 0 by decide), ck_t e1, bd_s ((m_isF e1 e2 e4 x4 hF).2 hy), if_pos rfl]
        exact bad
  · refine ⟨.inl 2, 0, wI (wI M m 0 0) m 0 1, ?_, ?_, .inr (.inl ⟨rfl, wI_e _ _ _ _⟩), STv_0 (STv_0 S), rfl⟩
    · unfold f_X11_took b_X11_took_0
      rw [ck_t c1, bx_t (c_ckG_out c1 c2 c3 g2 hG hx)]
    · unfold f_X14_took b_X14_took_0
      rw [ck_t t13, lw_S, bd_s ((m_isG e1 e2 e4 x0 hG).2 hx), if_pos rfl]
      exact bad
/-- the one who took the most -/
def blN (f : Nat → Int32) : Nat → Int32 × Int32
  | 0 => (-1, 0)
  | j + 1 => if f j ≤ (blN f j).2 then blN f j else (nI j, f j)
theorem blN_s {f : Nat → Int32} : ∀ n, ((blN f n).1 = -1 ∧ (blN f n).2 = 0) ∨ ∃ i, i < n ∧ (blN f n).1 = nI i ∧ (blN f n).2 = f i
  | 0 => .inl ⟨rfl, rfl⟩
  | n + 1 => by
    rw [blN]
    by_cases c : f n ≤ (blN f n).2
    · rw [if_pos c]
      rcases blN_s (f := f) n with h | ⟨i, h1, h2⟩
      · exact .inl h
      · exact .inr ⟨i, by omega, h2⟩
    · rw [if_neg c]
      exact .inr ⟨n, Nat.lt_succ_self n, rfl, rfl⟩
theorem blN_c {f h : Nat → Int32} : ∀ n, (∀ i, i < n → f i = h i) → blN f n = blN h n
  | 0, _ => rfl
  | n + 1, e => by rw [blN, blN, e n (Nat.lt_succ_self n), blN_c n fun i hi => e i (by omega)]
theorem T_blame {Z : Nat → Nat} {b m o o' t n kb : Nat} {T : Nat → Nat} {M : gMem} {x : Int32} (S : STv Z b m o o' t n kb T M) : ∃ r v M2, f_X11_blame M b x = some (r, M) ∧ f_X14_blame M m x = some (v, M2) ∧ AGR 2 9 r v (mI M2 m 0) ∧ STv Z b m o o' t n kb T M2 ∧ mN M2 = mN M := by
  obtain ⟨c1, c2, LCo, c3, cA⟩ := STv_c S
  obtain ⟨e1, e2, e3, LA, eS, eI, e4, e5, e6⟩ := STv_m 0 S
  obtain ⟨pg, len, F, G, np, nO, ⟨-, -, W, D, TRr, R, V⟩, hG, hF, g2, g3, x0, x4, t13⟩ := STv_w S
  by_cases hx : ∃ a, a < G ∧ x = nI a
  · have xx := hx
    obtain ⟨g, hg, hxg⟩ := xx
    subst hxg
    have hg8 : g < 8 := by omega
    obtain ⟨fn, hfn⟩ : ∃ fn : Nat → Int32, fn = fun f => cutF 86 o M (35 + 2 * f) g := ⟨_, rfl⟩
    have cst : ∀ j, j < F → bb_X11_blame_12 M b (nI g) (blN fn j).1 (blN fn j).2 (nI j) = some (.inl (M, (blN fn (j + 1)).1, (blN fn (j + 1)).2, nI (j + 1))) := fun f hf => by
      have hf8 : f < 8 := by omega
      have cRg' : mR M (o + 2) f = some (o + (34 + 2 * f)) := by rw [← cA]; exact cRrf LCo hf8
      have cTg' : mT M (o + (34 + 2 * f)) = 1 := by rw [← cA]; exact cTf LCo hf8
      have cRf' : mR M (o + (34 + 2 * f)) 10 = some (o + (35 + 2 * f)) := by rw [← cA]; exact cRf LCo hf8
      have l := LCo (35 + 2 * f) (by omega)
      have cT' : mT M (o + (35 + 2 * f)) = 20 := l.1.trans ((by decide : ∀ i, i < 8 → layT (35 + 2 * i) = 20) f hf8)
      have cL' : mL M (o + (35 + 2 * f)) = 8 := l.2.1.trans ((by decide : ∀ i, i < 8 → layL (35 + 2 * i) = 8) f hf8)
      have Af : mI M (o + (35 + 2 * f)) (nI g).toNatClampNeg = fn f := by rw [nI_clamp (by omega), hfn, ← cutF_e (n := 86) (a := o) (M := M) (d := 35 + 2 * f) (by omega)]
      have q1 : ¬ nI F ≤ nI f := fun q => by have := (nI_leI (by omega) (by omega)).mp q; omega
      unfold bb_X11_blame_12 b_X11_blame_53
      rw [ck_t c1, dr_s c2, ck_t c3, g3, if_neg q1, dr_s (show mR M o 7 = some (o + 2) from (LCo 0 (by omega)).2.2 (by omega) 7), ck_t (show mT M (o + 2) = 24 from (LCo 2 (by omega)).1), show mL M (o + 2) = 8 from (LCo 2 (by omega)).2.1, ck_t (show inb (nI f) 8 from (inbN (by omega)).mpr hf8), nI_clamp (n := f) (by omega), cRg', dr_S, ck_t cTg', dr_s cRf', ck_t cT', cL', ck_t (show inb (nI g) 8 from (inbN (by omega)).mpr (by omega)), Af, nI_1, blN]
      by_cases c : fn f ≤ (blN fn f).2
      · rw [if_pos c, if_pos c]
      · rw [if_neg c, if_neg c]
    have cen : bb_X11_blame_12 M b (nI g) (blN fn F).1 (blN fn F).2 (nI F) = some (.inr (.inr (blN fn F).1, M)) := by
      unfold bb_X11_blame_12
      rw [ck_t c1, dr_s c2, ck_t c3, g3, if_pos (nI_le (Nat.le_refl _) (by omega))]
      rfl
    have h3 := LA.2.2.1 3 (by omega) (by omega)
    have st3 : ∀ f, f < F → mI (wI M m 0 0) (m + 24 + 3) (8 * g + f) = fn f := fun f hf => by rw [← eS, bC_I (by omega), R.2.2.2.1 g f hg hf, hfn]
    have mst : ∀ j, j < F → bb_X14_blame_23 (wI M m 0 0) m (nI g) (blN fn j).1 (nI j) = some (.inl (wI M m 0 0, (blN fn (j + 1)).1, nI (j + 1))) := fun f hf => by
      have q1 : ¬ nI F ≤ nI f := fun q => by have := (nI_leI (by omega) (by omega)).mp q; omega
      have last : ∀ u, u = (blN fn f).2 → b_X14_blame_71 (wI M m 0 0) m (nI g) (blN fn f).1 (nI f) (fn f) u = some (.inl (wI M m 0 0, (blN fn (f + 1)).1, nI (f + 1))) := fun u hu => by
        subst hu
        unfold b_X14_blame_71 b_X14_blame_76
        rw [blN]
        by_cases c : fn f ≤ (blN fn f).2
        · rw [if_pos c, if_pos c, nI_1]
        · rw [if_neg c, if_neg c, nI_1]
      have pre : ∀ f', f' < 8 → inb ((8 : Int32) * nI g + nI f') (lenS 3) := fun f' h => by rw [m8, nI_add]; exact (inbN (by omega)).mpr (show _ < 64 by omega)
      have rd : ∀ f', f' < F → mI (wI M m 0 0) (m + 24 + 3) ((8 : Int32) * nI g + nI f').toNatClampNeg = fn f' := fun f' h => by rw [m8, nI_add, nI_clamp (by omega)]; exact st3 f' h
      unfold bb_X14_blame_23
      rw [ck_t e1, dr_s e2, ck_t e4, x4, if_neg q1, dr_s e3, ck_t e5, dr_s h3.2.2, ck_t h3.1, h3.2.1, ck_t (pre f (by omega))]
      rcases blN_s (f := fn) f with ⟨k1, k2⟩ | ⟨i, k0, k1, k2⟩
      · rw [if_pos k1, rd f hf]
        exact last 0 k2.symm
      · rw [if_neg (by rw [k1]; exact nI_nm1 (by omega)), k1, ck_t (pre i (by omega)), rd f hf, rd i (by omega), ← k1]
        exact last _ k2.symm
    have men : bb_X14_blame_23 (wI M m 0 0) m (nI g) (blN fn F).1 (nI F) = some (.inr ((blN fn F).1, wI M m 0 0)) := by
      unfold bb_X14_blame_23
      rw [ck_t e1, dr_s e2, ck_t e4, x4, if_pos (nI_le (Nat.le_refl _) (by omega))]
      rfl
    refine ⟨.inr (blN fn F).1, (blN fn F).1, wI M m 0 0, ?_, ?_, .inl ⟨rfl, wI_e _ _ _ _⟩, STv_0 S, rfl⟩
    · unfold f_X11_blame b_X11_blame_0
      rw [ck_t c1, bx_s (c_ckG_in c1 c2 c3 g2 hG hg)]
      exact lp_seq (f := fun (q : gMem × Int32 × Int32 × Int32) => bb_X11_blame_12 q.1 b (nI g) q.2.1 q.2.2.1 q.2.2.2) (fun j => (M, (blN fn j).1, (blN fn j).2, nI j)) 0 F (Nat.zero_le _) (fun j _ hj => cst j hj) cen
    · unfold f_X14_blame b_X14_blame_0
      rw [ck_t t13, lw_S, bd_s ((m_isG e1 e2 e4 x0 hG).1 hx), if_neg (show ¬ (1 : Int32) = 0 by decide)]
      exact lp_seq (f := fun (q : gMem × Int32 × Int32) => bb_X14_blame_23 q.1 m (nI g) q.2.1 q.2.2) (fun j => (wI M m 0 0, (blN fn j).1, nI j)) 0 F (Nat.zero_le _) (fun j _ hj => mst j hj) men
  · refine ⟨.inl 2, 0, wI (wI M m 0 0) m 0 1, ?_, ?_, .inr (.inl ⟨rfl, wI_e _ _ _ _⟩), STv_0 (STv_0 S), rfl⟩
    · unfold f_X11_blame b_X11_blame_0
      rw [ck_t c1, bx_t (c_ckG_out c1 c2 c3 g2 hG hx)]
    · unfold f_X14_blame b_X14_blame_0
      rw [ck_t t13, lw_S, bd_s ((m_isG e1 e2 e4 x0 hG).2 hx), if_pos rfl, ck_t e1, bd_s (m_no e1)]
theorem gap_eq {f : Nat → Int32} : ∀ n, (∀ i, i < n + 1 → ∃ a, a < 2 ^ 31 ∧ f i = nI a) → grtN f (n + 1) = maxN f n ∧ lsN f (n + 1) = minN f n
  | 0, h => by
    obtain ⟨a, h1, h2⟩ := h 0 (by omega)
    refine ⟨?_, ?_⟩
    · show imax (nI 0) (f 0) = f 0
      unfold imax
      rw [h2]
      by_cases c : nI 0 < nI a
      · rw [if_pos c]
      · rw [if_neg c]
        have : ¬ 0 < a := fun z => c ((nI_ltI (by omega) h1).mpr z)
        rw [show a = 0 by omega]
    · show imin (nI 2147483647) (f 0) = f 0
      unfold imin
      rw [h2]
      by_cases c : nI a < nI 2147483647
      · rw [if_pos c]
      · rw [if_neg c]
        have : ¬ a < 2147483647 := fun z => c ((nI_ltI h1 (by omega)).mpr z)
        rw [show a = 2147483647 by omega]
  | n + 1, h => by
    obtain ⟨h1, h2⟩ := gap_eq n fun i hi => h i (by omega)
    rw [grtN, lsN, maxN, minN, h1, h2]
    exact ⟨rfl, rfl⟩
theorem mm_c {f h : Nat → Int32} : ∀ n, (∀ i, i < n + 1 → f i = h i) → maxN f n = maxN h n ∧ minN f n = minN h n
  | 0, e => ⟨e 0 (by omega), e 0 (by omega)⟩
  | n + 1, e => by
    obtain ⟨h1, h2⟩ := mm_c n fun i hi => e i (by omega)
    rw [maxN, minN, maxN, minN, h1, h2, e (n + 1) (by omega)]
    exact ⟨rfl, rfl⟩
/-- both gaps -/
theorem gap2 {m t o F : Nat} {kb : Nat} {A st : Nat → Nat → Int32} {M X : gMem} (L : LC o M) (LA : LSt m t (m + 24) X) (h3 : A 0 3 = nI F) (h4 : mI X t 4 = nI F) (hF : F ≤ 8) (hk : kb < 2 ^ 31) (R : ∀ f, f < F → st 5 f = A (34 + 2 * f) 4) (V : ∀ f, f < F → ∃ a, a ≤ kb ∧ A (34 + 2 * f) 4 = nI a) : ∃ v, f_X7_storeGap (sC o A M) o = some (v, sC o A M) ∧ f_X12_gap (bC 17 (m + 24) st X) (m + 24) = some (v, bC 17 (m + 24) st X) := by
  rw [r_gap LA h4 hF]
  match F, h3, h4, hF, R, V with
  | 0, h3, h4, hF, R, V => exact ⟨0, s7_storeGap0 L h3, rfl⟩
  | n + 1, h3, h4, hF, R, V =>
    refine ⟨_, s7_storeGap L h3 (by omega), ?_⟩
    rw [if_neg (by omega)]
    obtain ⟨g1, g2⟩ := gap_eq (f := st 5) n fun i hi => by
      obtain ⟨a, a1, a2⟩ := V i hi
      exact ⟨a, by omega, by rw [R i hi]; exact a2⟩
    obtain ⟨k1, k2⟩ := mm_c (f := st 5) (h := fun i => A (34 + 2 * i) 4) n fun i hi => R i hi
    rw [g1, g2, k1, k2]
theorem T_gap {Z : Nat → Nat} {b m o o' t n kb : Nat} {T : Nat → Nat} {M : gMem} (S : STv Z b m o o' t n kb T M) (hk : kb < 2 ^ 31) : ∃ v, f_X11_gap M b = some (v, M) ∧ f_X14_gap M m = some (v, wI M m 0 0) ∧ STv Z b m o o' t n kb T (wI M m 0 0) := by
  obtain ⟨c1, c2, LCo, c3, cA⟩ := STv_c S
  obtain ⟨e1, e2, e3, LA, eS, eI, e4, e5, e6⟩ := STv_m 0 S
  obtain ⟨pg, len, F, G, np, nO, ⟨-, -, W, D, TRr, R, V⟩, hG, hF, g2, g3, x0, x4, t13⟩ := STv_w S
  obtain ⟨v, h1, h2⟩ := gap2 (st := cutF 17 (m + 24) M) LCo LA W.2.2.1 x4 hF hk (fun f hf => (R.1.2.2.2 f hf).2.1) V.1
  rw [cA] at h1
  rw [eS] at h2
  refine ⟨v, ?_, ?_, STv_0 S⟩
  · unfold f_X11_gap b_X11_gap_0
    rw [ck_t c1, dr_s c2, ck_t c3, bd_s h1]
  · unfold f_X14_gap b_X14_gap_0
    rw [ck_t t13, lw_S, dr_s e3, ck_t e5, bd_s h2]
