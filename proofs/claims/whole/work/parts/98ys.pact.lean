/-! ## Pure: pact -/
def pvA (A : Nat → Nat → Int32) (p c : Nat) : Int32 := if c = 0 then (if 0 ≤ A (74 + 2 * p) 0 then 1 else 0) else if c = 1 then A (74 + 2 * p) 0 else if c = 2 then A (74 + 2 * p) 3 else if c = 3 then A (75 + 2 * p) 0 else A (74 + 2 * p) (c + 1)
theorem c_pv {b o np p c : Nat} {M : gMem} (L : LC o M) (h1 : mT M b = 10) (h2 : mR M b 1 = some o) (h4 : mI M o 5 = nI np) (hG : np ≤ 6) (hp : p < np) (hc : c < 7) : f_X11_pact M b (nI p) (nI c) = some (.inr (pvA (cutF 86 o M) p c), M) := by
  have hp6 : p < 6 := by omega
  have h3 : mT M o = 7 := (L 0 (by omega)).1
  have cA : sC o (cutF 86 o M) M = M := sC_cut
  have ic : inb (nI p) 6 := (inbN (by omega)).mpr hp6
  have l4 := L 4 (by omega)
  have l74 := L (74 + 2 * p) (by omega)
  have l75 := L (75 + 2 * p) (by omega)
  have cT1' : mT M (o + 4) = 26 := l4.1
  have cL1' : mL M (o + 4) = 6 := l4.2.1
  have cR1 : mR M o 9 = some (o + 4) := (L 0 (by omega)).2.2 (by omega) 9
  have cRg' : mR M (o + 4) p = some (o + (74 + 2 * p)) := (l4.2.2 (by omega) p).trans (congrArg (Option.map (o + ·)) ((by decide : ∀ k, k < 6 → layR 4 k = some (74 + 2 * k)) p hp6))
  have cTg' : mT M (o + (74 + 2 * p)) = 5 := l74.1.trans ((by decide : ∀ i, i < 6 → layT (74 + 2 * i) = 5) p hp6)
  have cRf' : mR M (o + (74 + 2 * p)) 4 = some (o + (75 + 2 * p)) := (l74.2.2 (by omega) 4).trans (congrArg (Option.map (o + ·)) ((by decide : ∀ k, k < 6 → layR (74 + 2 * k) 4 = some (75 + 2 * k)) p hp6))
  have cTf' : mT M (o + (75 + 2 * p)) = 20 := l75.1.trans ((by decide : ∀ i, i < 6 → layT (75 + 2 * i) = 20) p hp6)
  have cLf' : mL M (o + (75 + 2 * p)) = 8 := l75.2.1.trans ((by decide : ∀ i, i < 6 → layL (75 + 2 * i) = 8) p hp6)
  have Ag : mI M (o + (74 + 2 * p)) = cutF 86 o M (74 + 2 * p) := (cutF_e (by omega)).symm
  have Af : mI M (o + (75 + 2 * p)) = cutF 86 o M (75 + 2 * p) := (cutF_e (by omega)).symm
  have spl : f_X5_splits M (o + (74 + 2 * p)) = some (if 0 ≤ cutF 86 o M (74 + 2 * p) 0 then 0 else 1, M) := by
    unfold f_X5_splits b_X5_splits_0 b_X5_splits_12
    rw [ck_t cTg', Ag]
    by_cases q : 0 ≤ cutF 86 o M (74 + 2 * p) 0
    · rw [if_pos q, if_pos q, ck_t (.inl rfl)]
    · rw [if_neg q, if_neg q, ck_t (.inr rfl)]
  have z := (in_bnd2 (x := nI p) (n := np) (by omega)).mpr ⟨p, hp, rfl⟩
  unfold f_X11_pact b_X11_pact_0
  rw [if_neg z.1, ck_t h1, dr_s h2, ck_t h3, h4, if_pos z.2, dr_s cR1, ck_t cT1', cL1', ck_t ic]
  obtain rfl | rfl | rfl | rfl | rfl | rfl | rfl : c = 0 ∨ c = 1 ∨ c = 2 ∨ c = 3 ∨ c = 4 ∨ c = 5 ∨ c = 6 := by omega
  · rw [if_pos (by decide), nI_clamp (by omega), cRg', dr_S, ck_t cTg', bd_s spl]
    unfold b_X11_pact_92
    by_cases q : 0 ≤ cutF 86 o M (74 + 2 * p) 0
    · rw [if_pos q, if_pos rfl]; show _ = some (Sum.inr (if 0 ≤ cutF 86 o M (74 + 2 * p) 0 then (1 : Int32) else 0), M); rw [if_pos q]
    · rw [if_neg q, if_neg (by decide)]; show _ = some (Sum.inr (if 0 ≤ cutF 86 o M (74 + 2 * p) 0 then (1 : Int32) else 0), M); rw [if_neg q]
  · rw [if_neg (by decide), if_pos (by decide), nI_clamp (by omega), cRg', dr_S, ck_t cTg', Ag]
    rfl
  · rw [if_neg (by decide), if_neg (by decide), if_pos (by decide), nI_clamp (by omega), cRg', dr_S, ck_t cTg', Ag]
    rfl
  · rw [if_neg (by decide), if_neg (by decide), if_neg (by decide), if_pos (by decide), nI_clamp (by omega), cRg', dr_S, ck_t cTg', dr_s cRf', ck_t cTf', cLf', ck_t (show inb (0 : Int32) 8 by decide), Af]
    rfl
  · rw [if_neg (by decide), if_neg (by decide), if_neg (by decide), if_neg (by decide), if_pos (by decide), nI_clamp (by omega), cRg', dr_S, ck_t cTg', Ag]
    rfl
  · rw [if_neg (by decide), if_neg (by decide), if_neg (by decide), if_neg (by decide), if_neg (by decide), if_pos (by decide), nI_clamp (by omega), cRg', dr_S, ck_t cTg', Ag]
    rfl
  · rw [if_neg (by decide), if_neg (by decide), if_neg (by decide), if_neg (by decide), if_neg (by decide), if_neg (by decide), if_pos (by decide), nI_clamp (by omega), cRg', dr_S, ck_t cTg', Ag]
    rfl
theorem m_pv {m t F G np p c : Nat} {A st : Nat → Nat → Int32} {X : gMem} (LA : LSt m t (m + 24) X) (h13 : mR X m 13 = some (m + 24)) (eS : bC 17 (m + 24) st X = X) (hm : m + 41 ≤ mN X) (ht : t + 17 ≤ mN X) (hp6 : np ≤ 6) (hp : p < np) (tg : mI X (t + 8) p = A (74 + 2 * p) 0 ∧ mI X (t + 9) p = A (74 + 2 * p) 3 ∧ mI X (t + 10) (8 * p) = A (75 + 2 * p) 0) (hv : A (74 + 2 * p) 0 = -1 ∨ ∃ g, g < 8 ∧ A (74 + 2 * p) 0 = nI g) (R : RS A st F G np) (hc : c < 7) : ∃ vs, f_X14_pactTold X m (nI p) (nI c) = some (pvA A p c, aN X 7 vs 7) := by
  obtain ⟨vs, hvs⟩ : ∃ vs : Nat → Int32, vs = fun i => pvA A p i := ⟨_, rfl⟩
  refine ⟨vs, ?_⟩
  have sI' : ∀ d k, d < 17 → mI X (m + 24 + d) k = st d k := fun d k hd => by rw [← eS]; exact bC_I hd
  have e1 : ∀ j, mT (aN X 7 vs j) m = 13 := fun j => by rw [(aN_o j (by omega)).1]; exact LA.1.2.2.1
  have e2 : ∀ j, mR (aN X 7 vs j) m 11 = some t := fun j => by rw [(aN_o j (by omega)).2.2.1]; exact LA.1.2.2.2.1
  have e3 : ∀ j, mR (aN X 7 vs j) m 13 = some (m + 24) := fun j => by rw [(aN_o j (by omega)).2.2.1]; exact h13
  have e4 : ∀ j, mT (aN X 7 vs j) t = 12 := fun j => by rw [(aN_o j (by omega)).1]; exact LA.1.2.2.2.2
  have e5 : ∀ j, mT (aN X 7 vs j) (m + 24) = 11 := fun j => by rw [(aN_o j (by omega)).1]; exact LA.1.1
  have hL : ∀ j, LSt m t (m + 24) (aN X 7 vs j) := fun j => LS_aN LA (by omega) (by omega) (by omega)
  have hS : ∀ j r, 1 ≤ r → r < 17 → mT (aN X 7 vs j) (m + 24 + r) = 20 ∧ mL (aN X 7 vs j) (m + 24 + r) = lenS r ∧ mR (aN X 7 vs j) (m + 24) (r + 1) = some (m + 24 + r) := fun j r r1 r2 => (hL j).2.2.1 r r1 r2
  have hD : ∀ j r, 1 ≤ r → r < 17 → mT (aN X 7 vs j) (t + r) = 20 ∧ mL (aN X 7 vs j) (t + r) = lenD r := fun j r r1 r2 => (hL j).2.2.2.1 r r1 r2
  have hR : ∀ j k, k < 25 → 0 < tdR k → mR (aN X 7 vs j) t k = some (t + tdR k) := fun j k k1 k2 => (hL j).2.2.2.2 k k1 k2
  have tN : ∀ j, mT (aN X 7 vs j) (mN X) = 20 := fun j => by rw [(aN_f j).1]; exact if_pos rfl
  have lN : ∀ j, mL (aN X 7 vs j) (mN X) = 7 := fun j => by rw [(aN_f j).2.1]; exact if_pos rfl
  have rI : ∀ j a k, a < mN X → mI (aN X 7 vs j) a k = mI X a k := fun j a k h => by rw [(aN_o j h).2.2.2]
  obtain ⟨m1, m2, m3⟩ := R.2.2.2.2.2.2 p hp
  have z0 : nW X 20 ((7 : Int32)).toNatClampNeg = aN X 7 vs 0 := rfl
  have w1 : mI (aN X 7 vs 1) (t + tdR 12) p = vs 1 := by rw [show t + tdR 12 = t + 8 from rfl, rI _ _ _ (show t + 8 < mN X by omega), tg.1, hvs]; rfl
  have w2 : mI (aN X 7 vs 2) (t + tdR 13) p = vs 2 := by rw [show t + tdR 13 = t + 9 from rfl, rI _ _ _ (show t + 9 < mN X by omega), tg.2.1, hvs]; rfl
  have w3 : mI (aN X 7 vs 3) (t + tdR 14) (8 * p) = vs 3 := by rw [show t + tdR 14 = t + 10 from rfl, rI _ _ _ (show t + 10 < mN X by omega), tg.2.2, hvs]; rfl
  have w4 : mI (aN X 7 vs 4) (m + 24 + 10) p = vs 4 := by rw [rI _ _ _ (by omega), sI' _ _ (by omega), m1, hvs]; rfl
  have w5 : mI (aN X 7 vs 5) (m + 24 + 11) p = vs 5 := by rw [rI _ _ _ (by omega), sI' _ _ (by omega), m2, hvs]; rfl
  have w6 : mI (aN X 7 vs 6) (m + 24 + 12) p = vs 6 := by rw [rI _ _ _ (by omega), sI' _ _ (by omega), m3, hvs]; rfl
  have key : ∀ s3, s3 = vs 0 → b_X14_pactTold_24 (aN X 7 vs 0) m (nI p) (nI c) (some (mN X)) (some (mN X)) 0 s3 = some (pvA A p c, aN X 7 vs 7) := by
    intro s3 hs
    unfold b_X14_pactTold_24
    rw [dr_S, ck_t (tN 0), lN 0, ck_t (show inb (0 : Int32) 7 by decide), ar_s (j := 0) (by decide) hs]
    rw [ck_t (e1 1), dr_s (e2 1), ck_t (e4 1), dr_s (hR 1 12 (by omega) (by decide)), ck_t (hD 1 (tdR 12) (by decide) (by decide)).1, (hD 1 (tdR 12) (by decide) (by decide)).2, ck_t (show inb (nI p) (lenD (tdR 12)) from (inbN (by omega)).mpr (show p < 6 by omega)), dr_S, ck_t (tN 1), lN 1, ck_t (show inb (1 : Int32) 7 by decide), ar_s (j := 1) (by decide) (by rw [nI_clamp (by omega)]; exact w1)]
    rw [dr_s (e2 2), ck_t (e4 2), dr_s (hR 2 13 (by omega) (by decide)), ck_t (hD 2 (tdR 13) (by decide) (by decide)).1, (hD 2 (tdR 13) (by decide) (by decide)).2, ck_t (show inb (nI p) (lenD (tdR 13)) from (inbN (by omega)).mpr (show p < 6 by omega)), lN 2, ck_t (show inb (2 : Int32) 7 by decide), ar_s (j := 2) (by decide) (by rw [nI_clamp (by omega)]; exact w2)]
    rw [dr_s (e2 3), ck_t (e4 3), dr_s (hR 3 14 (by omega) (by decide)), ck_t (hD 3 (tdR 14) (by decide) (by decide)).1, (hD 3 (tdR 14) (by decide) (by decide)).2, m8, ck_t (show inb (nI (8 * p)) (lenD (tdR 14)) from (inbN (by omega)).mpr (show 8 * p < 48 by omega)), lN 3, ck_t (show inb (3 : Int32) 7 by decide), ar_s (j := 3) (by decide) (by rw [nI_clamp (by omega)]; exact w3)]
    rw [dr_s (e3 4), ck_t (e5 4), dr_s (hS 4 10 (by omega) (by omega)).2.2, ck_t (hS 4 10 (by omega) (by omega)).1, (hS 4 10 (by omega) (by omega)).2.1, ck_t (show inb (nI p) (lenS 10) from (inbN (by omega)).mpr (show p < 6 by omega)), lN 4, ck_t (show inb (4 : Int32) 7 by decide), ar_s (j := 4) (by decide) (by rw [nI_clamp (by omega)]; exact w4)]
    rw [dr_s (e3 5), ck_t (e5 5), dr_s (hS 5 11 (by omega) (by omega)).2.2, ck_t (hS 5 11 (by omega) (by omega)).1, (hS 5 11 (by omega) (by omega)).2.1, ck_t (show inb (nI p) (lenS 11) from (inbN (by omega)).mpr (show p < 6 by omega)), lN 5, ck_t (show inb (5 : Int32) 7 by decide), ar_s (j := 5) (by decide) (by rw [nI_clamp (by omega)]; exact w5)]
    rw [dr_s (e3 6), ck_t (e5 6), dr_s (hS 6 12 (by omega) (by omega)).2.2, ck_t (hS 6 12 (by omega) (by omega)).1, (hS 6 12 (by omega) (by omega)).2.1, ck_t (show inb (nI p) (lenS 12) from (inbN (by omega)).mpr (show p < 6 by omega)), lN 6, ck_t (show inb (6 : Int32) 7 by decide), ar_s (j := 6) (by decide) (by rw [nI_clamp (by omega)]; exact w6)]
    rw [lN 7, ck_t (show inb (nI c) 7 from (inbN (by omega)).mpr hc), nI_clamp (by omega), aN_N rfl, if_pos hc]
    rw [hvs]
  unfold f_X14_pactTold b_X14_pactTold_0
  have r12 : mI (aN X 7 vs 0) (t + tdR 12) (nI p).toNatClampNeg = A (74 + 2 * p) 0 := by rw [nI_clamp (by omega), show t + tdR 12 = t + 8 from rfl, rI _ _ _ (show t + 8 < mN X by omega), tg.1]
  rw [lw_S, z0, ck_t (e1 0), dr_s (e2 0), ck_t (e4 0), dr_s (hR 0 12 (by omega) (by decide)), ck_t (hD 0 (tdR 12) (by decide) (by decide)).1, (hD 0 (tdR 12) (by decide) (by decide)).2, ck_t (show inb (nI p) (lenD (tdR 12)) from (inbN (by omega)).mpr (show p < 6 by omega)), r12]
  rcases hv with e | ⟨g, hg, e⟩
  · rw [if_pos e]
    refine key 0 ?_
    rw [hvs]
    show _ = if 0 ≤ A (74 + 2 * p) 0 then (1 : Int32) else 0
    rw [e, if_neg (by decide)]
  · rw [if_neg (by rw [e]; exact nI_nm1 (by omega))]
    refine key 1 ?_
    rw [hvs]
    show _ = if 0 ≤ A (74 + 2 * p) 0 then (1 : Int32) else 0
    rw [e, if_pos (show (0 : Int32) ≤ nI g from nI_le (a := 0) (Nat.zero_le _) (by omega))]
theorem T_pact {Z : Nat → Nat} {b m o o' t n kb : Nat} {T : Nat → Nat} {M : gMem} {x y : Int32} (S : STv Z b m o o' t n kb T M) : ∃ r v M2, f_X11_pact M b x y = some (r, M) ∧ f_X14_pact M m x y = some (v, M2) ∧ AGR 2 9 r v (mI M2 m 0) ∧ STv Z b m o o' t n kb T M2 ∧ mN M ≤ mN M2 ∧ mN M2 ≤ mN M + 1 := by
  obtain ⟨c1, c2, LCo, c3, cA⟩ := STv_c S
  obtain ⟨e1, e2, e3, LA, eS, eI, e4, e5, e6⟩ := STv_m 0 S
  obtain ⟨pg, len, F, G, np, nO, ⟨-, -, W, D, TRr, R, V⟩, hG, hF, g2, g3, x0, x4, t13⟩ := STv_w S
  have tI : ∀ j, mI (wI M m 0 0) (t + j) = mI M (t + j) := fun j => eI _ (by omega)
  have hp6 : np ≤ 6 := W.2.2.2.2.1.2.1
  have g5 : mI M o 5 = nI np := by rw [show mI M o = cutF 86 o M 0 from (cutF_e (n := 86) (d := 0) (by omega)).symm]; exact W.2.2.2.2.1.1
  have x11 : mI (wI M m 0 0) t 11 = nI np := by rw [eI t (by omega)]; exact TRr.1.2.2.2
  have bad : b_X14_pact_41 (wI M m 0 0) m = some (0, wI (wI M m 0 0) m 0 1) := by
    unfold b_X14_pact_41 b_X14_pact_46
    rw [ck_t e1, bd_s (m_no e1)]
  by_cases hx : ∃ a, a < np ∧ x = nI a
  · have xx := hx
    obtain ⟨p, hp, hxp⟩ := xx
    subst hxp
    by_cases hy : ∃ c, c < 7 ∧ y = nI c
    · have yy := hy
      obtain ⟨c, hc, hyc⟩ := yy
      subst hyc
      obtain ⟨u1, u2, u3, u4⟩ := TRr.2.2.2.2 p hp
      obtain ⟨nn, n1, n2, n3, n4⟩ := W.2.2.2.2.2.2.2 p hp
      obtain ⟨vs, mg⟩ := m_pv (c := c) (A := cutF 86 o M) LA e3 eS (show m + 41 ≤ mN M by have := S.2.2.1.2.2.2; omega) (show t + 17 ≤ mN M by have := S.2.2.1.2.2.2; omega) hp6 hp (by rw [tI 8, tI 9, tI 10]; exact ⟨u1, u2, u3 nn 0 n2 n3 (by omega)⟩) (u4.imp id fun z => by obtain ⟨⟨g, hg, e⟩, -⟩ := z; exact ⟨g, by omega, e⟩) R hc
      have a0 : mI (aN (wI M m 0 0) 7 vs 7) m 0 = 0 := by rw [(aN_o (X := wI M m 0 0) 7 (show m < mN M by have := S.2.2.1.2.2.2; omega)).2.2.2, wI_e]
      have aM : mN (aN (wI M m 0 0) 7 vs 7) = mN M + 1 := (aN_f 7).2.2.2.1
      refine ⟨.inr (pvA (cutF 86 o M) p c), pvA (cutF 86 o M) p c, aN (wI M m 0 0) 7 vs 7, c_pv LCo c1 c2 g5 hp6 hp hc, ?_, .inl ⟨rfl, a0⟩, STv_aN (STv_0 S), by omega, by omega⟩
      unfold f_X14_pact b_X14_pact_0
      rw [ck_t t13, lw_S, dr_s e2, ck_t e4, x11, bd_s ((m_inN (by omega)).1 hx), if_neg (show ¬ (1 : Int32) = 0 by decide), bd_s ((m_inC (n := 7) (by decide) (by omega)).1 hy), if_neg (show ¬ (1 : Int32) = 0 by decide), ck_t e1, bd_s mg]
      rfl
    · have ny : ∀ c, c < 7 → ¬ y = nI c := fun c h z => hy ⟨c, h, z⟩
      refine ⟨.inl 2, 0, wI (wI M m 0 0) m 0 1, ?_, ?_, .inr (.inl ⟨rfl, wI_e _ _ _ _⟩), STv_0 (STv_0 S), Nat.le_refl _, Nat.le_succ _⟩
      · have z := (in_bnd2 (x := nI p) (n := np) (by omega)).mpr ⟨p, hp, rfl⟩
        unfold f_X11_pact b_X11_pact_0
        rw [if_neg z.1, ck_t c1, dr_s c2, ck_t c3, g5, if_pos z.2, dr_s (show mR M o 9 = some (o + 4) from (LCo 0 (by omega)).2.2 (by omega) 9), ck_t (show mT M (o + 4) = 26 from (LCo 4 (by omega)).1), show mL M (o + 4) = 6 from (LCo 4 (by omega)).2.1, ck_t (show inb (nI p) 6 from (inbN (by omega)).mpr (by omega)), if_neg (show ¬ y = (0 : Int32) from ny 0 (by omega)), if_neg (show ¬ y = (1 : Int32) from ny 1 (by omega)), if_neg (show ¬ y = (2 : Int32) from ny 2 (by omega)), if_neg (show ¬ y = (3 : Int32) from ny 3 (by omega)), if_neg (show ¬ y = (4 : Int32) from ny 4 (by omega)), if_neg (show ¬ y = (5 : Int32) from ny 5 (by omega)), if_neg (show ¬ y = (6 : Int32) from ny 6 (by omega))]
      · unfold f_X14_pact b_X14_pact_0
        rw [ck_t t13, lw_S, dr_s e2, ck_t e4, x11, bd_s ((m_inN (by omega)).1 hx), if_neg (show ¬ (1 : Int32) = 0 by decide), bd_s ((m_inC (n := 7) (by decide) (by omega)).2 hy), if_pos rfl]
        exact bad
  · refine ⟨.inl 2, 0, wI (wI M m 0 0) m 0 1, ?_, ?_, .inr (.inl ⟨rfl, wI_e _ _ _ _⟩), STv_0 (STv_0 S), Nat.le_refl _, Nat.le_succ _⟩
    · unfold f_X11_pact b_X11_pact_0 b_X11_pact_15
      by_cases q : x < 0
      · rw [if_pos q]
      · rw [if_neg q, ck_t c1, dr_s c2, ck_t c3, g5, if_neg (fun z => hx ((in_bnd2 (by omega)).mp ⟨q, z⟩))]
    · unfold f_X14_pact b_X14_pact_0
      rw [ck_t t13, lw_S, dr_s e2, ck_t e4, x11, bd_s ((m_inN (by omega)).2 hx), if_pos rfl]
      exact bad
