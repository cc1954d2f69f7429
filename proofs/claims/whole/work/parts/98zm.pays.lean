/-! ## Pure: pays on both sides -/
theorem fcell {α : Type} {X : gMem} {o f : Nat} {k : Nat → Nat → Option α} (L : LC o X) (hf : f < 8) : (ck (mT X o = 7) <| dr (mR X o 7) fun a => ck (mT X a = 24) <| ck (inb (nI f) (mL X a)) <| dr (mR X a (nI f).toNatClampNeg) fun c => ck (mT X c = 1) <| k a c) = k (o + 2) (o + (34 + 2 * f)) := by
  rw [ck_t (lTo L), dr_s (lR0_7 L), ck_t (lT_2 L), ck_t (show inb (nI f) (mL X (o + 2)) by rw [lL_2 L]; exact (inbN (by omega)).mpr hf), dr_s (show mR X (o + 2) (nI f).toNatClampNeg = some (o + (34 + 2 * f)) by rw [nI_clamp (by omega)]; exact lRrf L hf), ck_t (lTf L hf)]
theorem T_pays {Z : Nat → Nat} {b m o o' t n kb : Nat} {T : Nat → Nat} {M : gMem} {x y : Int32} (S : STv Z b m o o' t n kb T M) : ∃ r M1 v M2, f_X11_pays Z M b x y = some (r, M1) ∧ f_X14_pays M1 m x y = some (v, M2) ∧ AGR 2 1 r v (mI M2 m 0) ∧ STv Z b m o o' t n kb T M2 ∧ mN M2 = mN M := by
  obtain ⟨c1, c2, LCo, c3, cA⟩ := STv_c S
  obtain ⟨e1, e2, e3, LA, eS, eI, e4, e5, e6⟩ := STv_m 0 S
  obtain ⟨p1, p2, p3, p4, p5, p6, p7, p8, p9, p10, p11, -, -⟩ := STv_p S
  obtain ⟨pg, len, F, G, np, ng, ⟨h1, P, W, D, TRr, R, V⟩, hG, hF, g2, g3, x0, x4, t13⟩ := STv_w S
  by_cases hx : ∃ a, a < F ∧ x = nI a
  · by_cases hy : ∃ a, 1 ≤ a ∧ a ≤ 60 ∧ y = nI a
    · have ck1 : f_X11_checkTides M y 60 = some (.inr (), M) := (c_ckT (n := 60) (by omega)).1 hy
      have mk1 : ∀ X, f_X14_isIn X y 1 60 = some (1, X) := fun X => (m_inT (n := 60) (by omega)).1 hy
      have xx := hx
      obtain ⟨f, hf, rfl⟩ := xx
      obtain ⟨k, k1, k2, rfl⟩ := hy
      have hf8 : f < 8 := by omega
      obtain ⟨X1, X2, z1, a, x1, O1, x2, O2, x3, -, vl1⟩ := c_var (k := k) (c := 9) (v := 1) S (OFr_0 p10) h1 P W D TRr R V hf k2 (.inl ⟨rfl, .inr rfl⟩)
      obtain ⟨X3, X4, z2, a', x5, O3, x6, O4, x7, -, vl0⟩ := c_var (k := k) (c := 9) (v := 0) S O2 h1 P W D TRr R V hf k2 (.inl ⟨rfl, .inl rfl⟩)
      rw [if_pos rfl, if_neg (by decide)] at vl1 vl0
      have L1 := OFr_LC O1 p8 (fun z => absurd rfl z)
      have L2 := OFr_LC O2 p8 (fun z => absurd rfl z)
      have L3 := OFr_LC O3 p8 (fun z => absurd rfl z)
      have L4 := OFr_LC O4 p8 (fun z => absurd rfl z)
      have AF : AFr m o' M (wI X4 m 0 0) := AFr_w (by omega) (AFr_O (by omega) O4)
      obtain ⟨X, hX⟩ : ∃ X, X = wI X4 m 0 0 := ⟨_, rfl⟩
      rw [← hX] at AF
      obtain ⟨a1, a2, a3, a4, LA', LB', aT, aS, a5⟩ := m_AF S AF
      obtain ⟨Y1, y1, AF1, m1⟩ := vl1 X AF
      obtain ⟨b1, b2, b3, b4, LA1, LB1, bT, bS, b5⟩ := m_AF S AF1
      obtain ⟨Y2, y2, AF2, m2⟩ := vl0 Y1 AF1
      have xf : mI X t 4 = nI F := (congrFun (aT 0 (by omega)) 4).trans TRr.1.2.1
      have iw : ∀ Y, mI Y (m + 24 + 4) = mI M (m + 24 + 4) → mI Y (m + 24 + 4) (nI f).toNatClampNeg = cutF 86 o M (34 + 2 * f) 1 := fun Y h => by
        rw [nI_clamp (by omega), h, ← (R.1.2.2.2 f hf).1, cutF_e (by omega)]
      have h4 := LA'.2.2.1 4 (by omega) (by omega)
      have h4' := LA1.2.2.1 4 (by omega) (by omega)
      have i8 : inb (nI f) 8 := (inbN (by omega)).mpr hf8
      refine ⟨.inr (nI a - nI a'), X4, nI a - nI a', Y2, ?_, ?_, .inl ⟨rfl, ?_⟩, STv_a S AF2, AF2.1.2.2⟩
      · unfold f_X11_pays b_X11_pays_0
        rw [ck_t c1, bx_s (c_ckF_in c1 c2 c3 g3 hF hf), bx_s ck1, ck_t c1, bd_s x1, dr_S, fcell L1 hf8, lw_S, bd_s x2, fcell L2 hf8, ck_t (show mT X2 b = 10 by rw [O2.1]; exact c1), bd_s x5, dr_S, fcell L3 hf8, lw_S, bd_s x6, fcell L4 hf8, x3, x7]
      · unfold f_X14_pays b_X14_pays_0
        rw [ck_t (show mT X4 m = 13 by rw [← a1, hX]; rfl), lw_S, ← hX, bd_s ((m_isF a1 a2 a5 xf hF).1 hx), if_neg (show ¬ (1 : Int32) = 0 by decide), bd_s (mk1 X), if_neg (show ¬ (1 : Int32) = 0 by decide), ck_t a1, dr_s a3, ck_t LA'.1.1, dr_s h4.2.2, ck_t h4.1, ck_t (show inb (nI f) (mL X (m + 24 + 4)) from h4.2.1 ▸ i8), iw X (aS 4 (by omega)), bd_s y1, ck_t b1, dr_s b3, ck_t LA1.1.1, dr_s h4'.2.2, ck_t h4'.1, ck_t (show inb (nI f) (mL Y1 (m + 24 + 4)) from h4'.2.1 ▸ i8), iw Y1 (bS 4 (by omega)), bd_s y2]
      · rw [m2, m1, hX, wI_e]
    · have ck1 : f_X11_checkTides M y 60 = some (.inl 1, M) := (c_ckT (n := 60) (by omega)).2 hy
      have mk1 : ∀ X, f_X14_isIn X y 1 60 = some (0, X) := fun X => (m_inT (n := 60) (by omega)).2 hy
      have xx := hx
      obtain ⟨f, hf, rfl⟩ := xx
      refine ⟨.inl 1, M, 0, wI (wI M m 0 0) m 0 2, ?_, ?_, .inr (.inr ⟨by decide, rfl, wI_e _ _ _ _⟩), STv_0 (STv_0 S), rfl⟩
      · unfold f_X11_pays b_X11_pays_0
        rw [ck_t c1, bx_s (c_ckF_in c1 c2 c3 g3 hF hf), bx_t ck1]
      · unfold f_X14_pays b_X14_pays_0
        rw [ck_t t13, lw_S, bd_s ((m_isF e1 e2 e4 x4 hF).1 hx), if_neg (show ¬ (1 : Int32) = 0 by decide), bd_s (mk1 _), if_pos rfl, ck_t e1, bd_s (m_no e1)]
  · refine ⟨.inl 2, M, 0, wI (wI M m 0 0) m 0 1, ?_, ?_, .inr (.inl ⟨rfl, wI_e _ _ _ _⟩), STv_0 (STv_0 S), rfl⟩
    · unfold f_X11_pays b_X11_pays_0
      rw [ck_t c1, bx_t (c_ckF_out c1 c2 c3 g3 hF hx)]
    · unfold f_X14_pays b_X14_pays_0
      rw [ck_t t13, lw_S, bd_s ((m_isF e1 e2 e4 x4 hF).2 hx), if_pos rfl, ck_t e1, bd_s (m_no e1)]
/-! ## Pure: advise on both sides -/
theorem T_advise {Z : Nat → Nat} {b m o o' t n kb : Nat} {T : Nat → Nat} {M : gMem} {x y : Int32} (S : STv Z b m o o' t n kb T M) (hkb : kb + 47520 < 2 ^ 31) : ∃ r M1 v M2, f_X11_advise Z M b x y = some (r, M1) ∧ f_X14_advise M1 m x y = some (v, M2) ∧ AGR 2 1 r v (mI M2 m 0) ∧ STv Z b m o o' t n kb T M2 ∧ mN M2 = mN M := by
  obtain ⟨c1, c2, LCo, c3, cA⟩ := STv_c S
  obtain ⟨e1, e2, e3, LA, eS, eI, e4, e5, e6⟩ := STv_m 0 S
  obtain ⟨p1, p2, p3, p4, p5, p6, p7, p8, p9, p10, p11, -, -⟩ := STv_p S
  obtain ⟨pg, len, F, G, np, ng, ⟨h1, P, W, D, TRr, R, V⟩, hG, hF, g2, g3, x0, x4, t13⟩ := STv_w S
  by_cases hx : ∃ a, a < F ∧ x = nI a
  · by_cases hy : ∃ a, 1 ≤ a ∧ a ≤ 40 ∧ y = nI a
    · have ck1 : f_X11_checkTides M y 40 = some (.inr (), M) := (c_ckT (n := 40) (by omega)).1 hy
      have mk1 : ∀ X, f_X14_isIn X y 1 40 = some (1, X) := fun X => (m_inT (n := 40) (by omega)).1 hy
      have xx := hx
      obtain ⟨f, hf, rfl⟩ := xx
      obtain ⟨k, k1, k2, rfl⟩ := hy
      have hf8 : f < 8 := by omega
      have i8 : inb (nI f) 8 := (inbN (by omega)).mpr hf8
      -- both loops, step by step
      obtain ⟨q, ⟨X, be, mo, rfl, OX, hY⟩, e2'⟩ := lp_ex (f := fun (q : gMem × Int32 × Int32 × Int32) => bb_X11_advise_19 Z q.1 b (nI f) (nI k) q.2.1 q.2.2.1 q.2.2.2) (fun j q => ∃ X be mo, q = (X, be, mo, nI (j + 1)) ∧ OFr o' M X ∧ ∀ Y, AFr m o' M Y → ∃ Y' rb rm, lp_X14_advise_43 Y m (nI f) (nI k) 0 0 1 = lp_X14_advise_43 Y' m (nI f) (nI k) rb rm (nI (j + 1)) ∧ AFr m o' M Y' ∧ mI Y' m = mI Y m ∧ ((j = 0 ∧ rb = 0 ∧ rm = 0 ∧ be = 1 ∧ mo = -1) ∨ (1 ≤ j ∧ rb = be ∧ rm = mo ∧ ∃ e, 1 ≤ e ∧ e ≤ 5 ∧ be = nI e))) 5 (fun j q hj hP => by
        obtain ⟨X, be, mo, rfl, OX, hY⟩ := hP
        obtain ⟨X1, X2, z1, a, x1, O1, x2, O2, x3, x3', vl⟩ := c_var (k := k) (c := 1) (v := nI (j + 1)) S OX h1 P W D TRr R V hf (by omega) (.inr ⟨rfl, j + 1, by omega, by omega, rfl⟩)
        rw [if_neg (by decide), if_pos rfl] at vl
        have L1 := OFr_LC O1 p8 (fun z => absurd rfl z)
        have L2 := OFr_LC O2 p8 (fun z => absurd rfl z)
        have q1 : ¬ (5 : Int32) < nI (j + 1) := fun z => by have := (nI_ltI (a := 5) (by omega) (by omega)).mp z; omega
        have cstep : bb_X11_advise_19 Z X b (nI f) (nI k) be mo (nI (j + 1)) = if nI a ≤ mo then some (.inl (X2, be, mo, nI (j + 1 + 1))) else some (.inl (X2, nI (j + 1), nI a, nI (j + 1 + 1))) := by
          unfold bb_X11_advise_19 b_X11_advise_80
          rw [if_neg q1, ck_t (show mT X b = 10 by rw [OX.1]; exact c1), bd_s x1, dr_S, fcell L1 hf8, lw_S, bd_s x2, fcell L2 hf8, x3, ck_t (show inb (nI f) (mL X2 (o' + 2)) by rw [lL_2 L2]; exact i8), nI_1]
        have rstep : ∀ Y' rb rm, AFr m o' M Y' → ∃ Y2, AFr m o' M Y2 ∧ mI Y2 m = mI Y' m ∧ lp_X14_advise_43 Y' m (nI f) (nI k) rb rm (nI (j + 1)) = if rb ≤ 0 ∨ rm < nI a then lp_X14_advise_43 Y2 m (nI f) (nI k) (nI (j + 1)) (nI a) (nI (j + 1 + 1)) else lp_X14_advise_43 Y2 m (nI f) (nI k) rb rm (nI (j + 1 + 1)) := fun Y' rb rm AF => by
          obtain ⟨Y2, y1, AF2, m1⟩ := vl Y' AF
          obtain ⟨a1, a2, a3, a4, LA', LB', aT, aS, a5⟩ := m_AF S AF
          have h9 := LA'.2.2.1 9 (by omega) (by omega)
          refine ⟨Y2, AF2, m1, ?_⟩
          have i9 : mI Y' (m + 24 + 9) (nI f).toNatClampNeg = cutF 86 o M (34 + 2 * f) 9 := by
            rw [nI_clamp (by omega), aS 9 (by omega), ← (R.1.2.2.2 f hf).2.2.2.1, cutF_e (by omega)]
          have st : bb_X14_advise_43 Y' m (nI f) (nI k) rb rm (nI (j + 1)) = if rb ≤ 0 ∨ rm < nI a then some (.inl (Y2, nI (j + 1), nI a, nI (j + 1 + 1))) else some (.inl (Y2, rb, rm, nI (j + 1 + 1))) := by
            unfold bb_X14_advise_43 b_X14_advise_82 b_X14_advise_89
            rw [if_neg q1, ck_t a1, dr_s a3, ck_t LA'.1.1, dr_s h9.2.2, ck_t h9.1, ck_t (show inb (nI f) (mL Y' (m + 24 + 9)) from h9.2.1 ▸ i8), i9, bd_s y1, nI_1]
            by_cases w1 : rb ≤ 0
            · rw [if_pos w1, if_pos (Or.inl w1)]
            · rw [if_neg w1]
              by_cases w2 : rm < nI a
              · rw [if_pos w2, if_pos (Or.inr w2)]
              · rw [if_neg w2, if_neg (by rintro (z | z); exact w1 z; exact w2 z)]
          by_cases w : rb ≤ 0 ∨ rm < nI a
          · rw [if_pos w] at st ⊢
            exact lp_in (f := fun (q : gMem × Int32 × Int32 × Int32) => bb_X14_advise_43 q.1 m (nI f) (nI k) q.2.1 q.2.2.1 q.2.2.2) st
          · rw [if_neg w] at st ⊢
            exact lp_in (f := fun (q : gMem × Int32 × Int32 × Int32) => bb_X14_advise_43 q.1 m (nI f) (nI k) q.2.1 q.2.2.1 q.2.2.2) st
        have na : ¬ nI a ≤ (-1 : Int32) := fun z => by
          have z1 := Int32.le_iff_toInt_le.mp z
          have e1 : (-1 : Int32).toInt = -1 := by decide
          have e2 : (nI a).toInt = a := Int32.toInt_ofNat_of_lt (by omega)
          omega
        by_cases w : nI a ≤ mo
        · refine ⟨(X2, be, mo, nI (j + 1 + 1)), cstep.trans (if_pos w), X2, be, mo, rfl, O2, fun Y AF => ?_⟩
          obtain ⟨Y', rb, rm, r1, r2, r3, r4⟩ := hY Y AF
          obtain ⟨Y2, s1, s2, s3⟩ := rstep Y' rb rm r2
          obtain ⟨-, -, -, -, w2⟩ | ⟨w1, w2, w3, e, w4, w5, w6⟩ := r4
          · rw [w2] at w; exact absurd w na
          · refine ⟨Y2, rb, rm, ?_, s1, by rw [s2, r3], .inr ⟨by omega, w2, w3, e, w4, w5, w6⟩⟩
            rw [r1, s3, if_neg]
            rintro (z | z)
            · rw [w2, w6] at z
              have := (nI_leI (b := 0) (by omega) (by omega)).mp z
              omega
            · rw [w3] at z
              have z1 := Int32.lt_iff_toInt_lt.mp z
              have z2 := Int32.le_iff_toInt_le.mp w
              omega
        · refine ⟨(X2, nI (j + 1), nI a, nI (j + 1 + 1)), cstep.trans (if_neg w), X2, nI (j + 1), nI a, rfl, O2, fun Y AF => ?_⟩
          obtain ⟨Y', rb, rm, r1, r2, r3, r4⟩ := hY Y AF
          obtain ⟨Y2, s1, s2, s3⟩ := rstep Y' rb rm r2
          refine ⟨Y2, nI (j + 1), nI a, ?_, s1, by rw [s2, r3], .inr ⟨by omega, rfl, rfl, j + 1, by omega, by omega, rfl⟩⟩
          rw [r1, s3, if_pos]
          obtain ⟨-, w2, -⟩ | ⟨w1, w2, w3, -⟩ := r4
          · rw [w2]; exact .inl (by decide)
          · refine .inr (Int32.lt_iff_toInt_lt.mpr ?_)
            rw [w3]
            have : ¬ (nI a).toInt ≤ mo.toInt := fun z => w (Int32.le_iff_toInt_le.mpr z)
            omega) 5 0 (M, 1, -1, nI 1) (by omega) ⟨M, 1, -1, rfl, OFr_0 p10, fun Y AF => ⟨Y, 0, 0, rfl, AF, rfl, .inl ⟨rfl, rfl, rfl, rfl, rfl⟩⟩⟩
      have AF : AFr m o' M (wI X m 0 0) := AFr_w (by omega) (AFr_O (by omega) OX)
      obtain ⟨X', hX⟩ : ∃ X', X' = wI X m 0 0 := ⟨_, rfl⟩
      rw [← hX] at AF
      obtain ⟨a1, a2, a3, a4, LA', LB', aT, aS, a5⟩ := m_AF S AF
      have xf : mI X' t 4 = nI F := (congrFun (aT 0 (by omega)) 4).trans TRr.1.2.1
      obtain ⟨Y', rb, rm, r1, r2, r3, r4⟩ := hY X' AF
      obtain ⟨w1, -⟩ | ⟨w1, w2, w3, -⟩ := r4
      · omega
      refine ⟨.inr be, X, be, Y', ?_, ?_, .inl ⟨rfl, by rw [r3, hX, wI_e]⟩, STv_a S r2, r2.1.2.2⟩
      · unfold f_X11_advise b_X11_advise_0
        rw [ck_t c1, bx_s (c_ckF_in c1 c2 c3 g3 hF hf), bx_s ck1]
        show lp (fun (q : gMem × Int32 × Int32 × Int32) => bb_X11_advise_19 Z q.1 b (nI f) (nI k) q.2.1 q.2.2.1 q.2.2.2) (M, 1, -1, nI 1) = _
        rw [e2']
        refine lp_out ?_
        show bb_X11_advise_19 Z X b (nI f) (nI k) be mo (nI 6) = _
        unfold bb_X11_advise_19
        rw [if_pos (by decide)]
        rfl
      · unfold f_X14_advise b_X14_advise_0
        rw [ck_t (show mT X m = 13 by rw [← a1, hX]; rfl), lw_S, ← hX, bd_s ((m_isF a1 a2 a5 xf hF).1 hx), if_neg (show ¬ (1 : Int32) = 0 by decide), bd_s (mk1 X'), if_neg (show ¬ (1 : Int32) = 0 by decide), r1, w2]
        refine lp_out ?_
        show bb_X14_advise_43 Y' m (nI f) (nI k) be rm (nI 6) = _
        unfold bb_X14_advise_43
        rw [if_pos (by decide)]
        rfl
    · have ck1 : f_X11_checkTides M y 40 = some (.inl 1, M) := (c_ckT (n := 40) (by omega)).2 hy
      have mk1 : ∀ X, f_X14_isIn X y 1 40 = some (0, X) := fun X => (m_inT (n := 40) (by omega)).2 hy
      have xx := hx
      obtain ⟨f, hf, rfl⟩ := xx
      refine ⟨.inl 1, M, 0, wI (wI M m 0 0) m 0 2, ?_, ?_, .inr (.inr ⟨by decide, rfl, wI_e _ _ _ _⟩), STv_0 (STv_0 S), rfl⟩
      · unfold f_X11_advise b_X11_advise_0
        rw [ck_t c1, bx_s (c_ckF_in c1 c2 c3 g3 hF hf), bx_t ck1]
      · unfold f_X14_advise b_X14_advise_0
        rw [ck_t t13, lw_S, bd_s ((m_isF e1 e2 e4 x4 hF).1 hx), if_neg (show ¬ (1 : Int32) = 0 by decide), bd_s (mk1 _), if_pos rfl, ck_t e1, bd_s (m_no e1)]
  · refine ⟨.inl 2, M, 0, wI (wI M m 0 0) m 0 1, ?_, ?_, .inr (.inl ⟨rfl, wI_e _ _ _ _⟩), STv_0 (STv_0 S), rfl⟩
    · unfold f_X11_advise b_X11_advise_0
      rw [ck_t c1, bx_t (c_ckF_out c1 c2 c3 g3 hF hx)]
    · unfold f_X14_advise b_X14_advise_0
      rw [ck_t t13, lw_S, bd_s ((m_isF e1 e2 e4 x4 hF).2 hx), if_pos rfl, ck_t e1, bd_s (m_no e1)]
