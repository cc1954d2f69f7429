/-! ## Pure: what the class tells without a throw (the checksum asks so) -/
theorem c_ckGn {b o G a : Nat} {M : gMem} (h1 : mT M b = 10) (h2 : mR M b 1 = some o) (h3 : mT M o = 7) (h4 : mI M o 2 = nI G) (hG : G ≤ 8) (ha : a < G) : f_X11_checkGround_n M b (nI a) = some ((), M) := by
  unfold f_X11_checkGround_n b_X11_checkGround_n_0
  have z := (in_bnd2 (x := nI a) (n := G) (by omega)).mpr ⟨a, ha, rfl⟩
  rw [if_neg z.1, ck_t h1, dr_s h2, ck_t h3, h4, if_pos z.2]
theorem c_ckFn {b o G a : Nat} {M : gMem} (h1 : mT M b = 10) (h2 : mR M b 1 = some o) (h3 : mT M o = 7) (h4 : mI M o 3 = nI G) (hG : G ≤ 8) (ha : a < G) : f_X11_checkFisher_n M b (nI a) = some ((), M) := by
  unfold f_X11_checkFisher_n b_X11_checkFisher_n_0
  have z := (in_bnd2 (x := nI a) (n := G) (by omega)).mpr ⟨a, ha, rfl⟩
  rw [if_neg z.1, ck_t h1, dr_s h2, ck_t h3, h4, if_pos z.2]
theorem c_cvn {b o F G n c : Nat} {M : gMem} (L : LC o M) (h1 : mT M b = 10) (h2 : mR M b 1 = some o) (h0 : mR M b 0 = some (b + 1)) (t9 : mT M (b + 1) = 9) (hn : mI M (b + 1) 0 = nI n) (g2 : cutF 86 o M 0 2 = nI G) (g3 : cutF 86 o M 0 3 = nI F) (hG : G ≤ 8) (hF : F ≤ 8) (hc : c < 10) : f_X11_count_n M b (nI c) = some ((cvA (cutF 86 o M) F G n c), M) := by
  have h3 : mT M o = 7 := (L 0 (by omega)).1
  have cA : sC o (cutF 86 o M) M = M := sC_cut
  have A0 : mI M o = cutF 86 o M 0 := (cutF_e (n := 86) (d := 0) (by omega)).symm
  have k5 := s7_allFish (M := M) L g2 hG
  have k6 := s7_allStores (M := M) L g3 hF
  have k7 := s7_widenedNets (M := M) L g3 hF
  have k8 := s7_allCheats (M := M) L g3 hF
  rw [cA] at k5 k6 k7 k8
  unfold f_X11_count_n b_X11_count_n_0
  obtain rfl | rfl | rfl | rfl | rfl | rfl | rfl | rfl | rfl | rfl : c = 0 ∨ c = 1 ∨ c = 2 ∨ c = 3 ∨ c = 4 ∨ c = 5 ∨ c = 6 ∨ c = 7 ∨ c = 8 ∨ c = 9 := by omega
  · rw [if_pos (by decide), ck_t h1, dr_s h2, ck_t h3, A0]
    rfl
  · rw [if_neg (by decide), if_pos (by decide), ck_t h1, dr_s h2, ck_t h3, A0]
    rfl
  · rw [if_neg (by decide), if_neg (by decide), if_pos (by decide), ck_t h1, dr_s h2, ck_t h3, A0]
    rfl
  · rw [if_neg (by decide), if_neg (by decide), if_neg (by decide), if_pos (by decide), ck_t h1, dr_s h2, ck_t h3, A0]
    rfl
  · rw [if_neg (by decide), if_neg (by decide), if_neg (by decide), if_neg (by decide), if_pos (by decide), ck_t h1, dr_s h2, ck_t h3, A0]
    rfl
  · rw [if_neg (by decide), if_neg (by decide), if_neg (by decide), if_neg (by decide), if_neg (by decide), if_pos (by decide), ck_t h1, dr_s h2, ck_t h3, bd_s k5]
    rfl
  · rw [if_neg (by decide), if_neg (by decide), if_neg (by decide), if_neg (by decide), if_neg (by decide), if_neg (by decide), if_pos (by decide), ck_t h1, dr_s h2, ck_t h3, bd_s k6]
    rfl
  · rw [if_neg (by decide), if_neg (by decide), if_neg (by decide), if_neg (by decide), if_neg (by decide), if_neg (by decide), if_neg (by decide), if_pos (by decide), ck_t h1, dr_s h2, ck_t h3, bd_s k7]
    rfl
  · rw [if_neg (by decide), if_neg (by decide), if_neg (by decide), if_neg (by decide), if_neg (by decide), if_neg (by decide), if_neg (by decide), if_neg (by decide), if_pos (by decide), ck_t h1, dr_s h2, ck_t h3, bd_s k8]
    rfl
  · rw [if_neg (by decide), if_neg (by decide), if_neg (by decide), if_neg (by decide), if_neg (by decide), if_neg (by decide), if_neg (by decide), if_neg (by decide), if_neg (by decide), if_pos (by decide), ck_t h1, dr_s h0, ck_t t9, hn]
    rfl
theorem c_gvn {b o G g c : Nat} {M : gMem} (L : LC o M) (h1 : mT M b = 10) (h2 : mR M b 1 = some o) (h4 : mI M o 2 = nI G) (hG : G ≤ 8) (hg : g < G) (hc : c < 9) : f_X11_ground_n M b (nI g) (nI c) = some ((gvA (cutF 86 o M) g c), M) := by
  have hg8 : g < 8 := by omega
  have h3 : mT M o = 7 := (L 0 (by omega)).1
  have cA : sC o (cutF 86 o M) M = M := sC_cut
  have ic : inb (nI g) 8 := (inbN (by omega)).mpr hg8
  have cT1' : mT M (o + 1) = 23 := (L 1 (by omega)).1
  have cL1' : mL M (o + 1) = 8 := (L 1 (by omega)).2.1
  have cR1 : mR M o 6 = some (o + 1) := by rw [← cA]; exact cR0_6 L
  have cRg' : mR M (o + 1) g = some (o + (18 + 2 * g)) := by rw [← cA]; exact cRrg L hg8
  have cTg' : mT M (o + (18 + 2 * g)) = 3 := by rw [← cA]; exact cTg L hg8
  have Ag : mI M (o + (18 + 2 * g)) = cutF 86 o M (18 + 2 * g) := (cutF_e (by omega)).symm
  have Af : mI M (o + (19 + 2 * g)) = cutF 86 o M (19 + 2 * g) := (cutF_e (by omega)).symm
  have cRf' : mR M (o + (18 + 2 * g)) 3 = some (o + (19 + 2 * g)) := by rw [← cA]; exact cRg L hg8
  have cTf' : mT M (o + (19 + 2 * g)) = 20 := by rw [← cA]; exact cTgf L hg8
  have cLf' : mL M (o + (19 + 2 * g)) = 6 := by rw [← cA]; exact cLgf L hg8
  have fish : f_X3_allFish M (o + (18 + 2 * g)) = some (sum5 (cutF 86 o M (19 + 2 * g)) 5, M) := by
    have z := s_gFish (sg := cutF 86 o M) (M := M) L hg8
    rw [cA] at z
    exact z
  unfold f_X11_ground_n b_X11_ground_n_0
  rw [ck_t h1, bd_s (c_ckGn h1 h2 h3 h4 hG hg), ck_t h1, dr_s h2, ck_t h3, dr_s cR1, ck_t cT1', cL1', ck_t ic]
  obtain rfl | rfl | rfl | rfl | rfl | rfl | rfl | rfl | rfl : c = 0 ∨ c = 1 ∨ c = 2 ∨ c = 3 ∨ c = 4 ∨ c = 5 ∨ c = 6 ∨ c = 7 ∨ c = 8 := by omega
  · rw [if_pos (by decide), nI_clamp (by omega), cRg', dr_S, ck_t cTg', bd_s fish]
    rfl
  · rw [if_neg (by decide), if_pos (by decide)]
    unfold b_X11_ground_n_73
    rw [nI_clamp (by omega), cRg', dr_S, ck_t cTg', dr_s cRf', ck_t cTf', cLf', ck_t (show inb (nI 1) 6 from (inbN (by omega)).mpr (by omega)), nI_clamp (by omega), Af]
    rfl
  · rw [if_neg (by decide), if_neg (by decide), if_pos (by decide)]
    unfold b_X11_ground_n_73
    rw [nI_clamp (by omega), cRg', dr_S, ck_t cTg', dr_s cRf', ck_t cTf', cLf', ck_t (show inb (nI 2) 6 from (inbN (by omega)).mpr (by omega)), nI_clamp (by omega), Af]
    rfl
  · rw [if_neg (by decide), if_neg (by decide), if_neg (by decide), if_pos (by decide)]
    unfold b_X11_ground_n_73
    rw [nI_clamp (by omega), cRg', dr_S, ck_t cTg', dr_s cRf', ck_t cTf', cLf', ck_t (show inb (nI 3) 6 from (inbN (by omega)).mpr (by omega)), nI_clamp (by omega), Af]
    rfl
  · rw [if_neg (by decide), if_neg (by decide), if_neg (by decide), if_neg (by decide), if_pos (by decide)]
    unfold b_X11_ground_n_73
    rw [nI_clamp (by omega), cRg', dr_S, ck_t cTg', dr_s cRf', ck_t cTf', cLf', ck_t (show inb (nI 4) 6 from (inbN (by omega)).mpr (by omega)), nI_clamp (by omega), Af]
    rfl
  · rw [if_neg (by decide), if_neg (by decide), if_neg (by decide), if_neg (by decide), if_neg (by decide), if_pos (by decide)]
    unfold b_X11_ground_n_73
    rw [nI_clamp (by omega), cRg', dr_S, ck_t cTg', dr_s cRf', ck_t cTf', cLf', ck_t (show inb (nI 5) 6 from (inbN (by omega)).mpr (by omega)), nI_clamp (by omega), Af]
    rfl
  · rw [if_neg (by decide), if_neg (by decide), if_neg (by decide), if_neg (by decide), if_neg (by decide), if_neg (by decide), if_pos (by decide), nI_clamp (by omega), cRg', dr_S, ck_t cTg', Ag]
    rfl
  · rw [if_neg (by decide), if_neg (by decide), if_neg (by decide), if_neg (by decide), if_neg (by decide), if_neg (by decide), if_neg (by decide), if_pos (by decide), nI_clamp (by omega), cRg', dr_S, ck_t cTg', Ag]
    rfl
  · rw [if_neg (by decide), if_neg (by decide), if_neg (by decide), if_neg (by decide), if_neg (by decide), if_neg (by decide), if_neg (by decide), if_neg (by decide), if_pos (by decide), nI_clamp (by omega), cRg', dr_S, ck_t cTg', Ag]
    rfl
theorem c_fvn {b o G g c : Nat} {M : gMem} (L : LC o M) (h1 : mT M b = 10) (h2 : mR M b 1 = some o) (h4 : mI M o 3 = nI G) (hG : G ≤ 8) (hg : g < G) (hc : c < 10) (c9 : cutF 86 o M (34 + 2 * g) 9 = 0 ∨ cutF 86 o M (34 + 2 * g) 9 = 1) : f_X11_fisher_n M b (nI g) (nI c) = some ((fvA (cutF 86 o M) g c), M) := by
  have hg8 : g < 8 := by omega
  have h3 : mT M o = 7 := (L 0 (by omega)).1
  have cA : sC o (cutF 86 o M) M = M := sC_cut
  have ic : inb (nI g) 8 := (inbN (by omega)).mpr hg8
  have cT1' : mT M (o + 2) = 24 := (L 2 (by omega)).1
  have cL1' : mL M (o + 2) = 8 := (L 2 (by omega)).2.1
  have cR1 : mR M o 7 = some (o + 2) := by rw [← cA]; exact cR0_7 L
  have cRg' : mR M (o + 2) g = some (o + (34 + 2 * g)) := by rw [← cA]; exact cRrf L hg8
  have cTg' : mT M (o + (34 + 2 * g)) = 1 := by rw [← cA]; exact cTf L hg8
  have Ag : mI M (o + (34 + 2 * g)) = cutF 86 o M (34 + 2 * g) := (cutF_e (by omega)).symm
  unfold f_X11_fisher_n b_X11_fisher_n_0
  rw [ck_t h1, bd_s (c_ckFn h1 h2 h3 h4 hG hg), ck_t h1, dr_s h2, ck_t h3, dr_s cR1, ck_t cT1', cL1', ck_t ic]
  obtain rfl | rfl | rfl | rfl | rfl | rfl | rfl | rfl | rfl | rfl : c = 0 ∨ c = 1 ∨ c = 2 ∨ c = 3 ∨ c = 4 ∨ c = 5 ∨ c = 6 ∨ c = 7 ∨ c = 8 ∨ c = 9 := by omega
  · rw [if_pos (by decide), nI_clamp (by omega), cRg', dr_S, ck_t cTg', Ag]
    rfl
  · rw [if_neg (by decide), if_pos (by decide), nI_clamp (by omega), cRg', dr_S, ck_t cTg', Ag]
    rfl
  · rw [if_neg (by decide), if_neg (by decide), if_pos (by decide), nI_clamp (by omega), cRg', dr_S, ck_t cTg', Ag]
    rfl
  · rw [if_neg (by decide), if_neg (by decide), if_neg (by decide), if_pos (by decide), nI_clamp (by omega), cRg', dr_S, ck_t cTg', Ag]
    rfl
  · rw [if_neg (by decide), if_neg (by decide), if_neg (by decide), if_neg (by decide), if_pos (by decide), nI_clamp (by omega), cRg', dr_S, ck_t cTg', Ag]
    rfl
  · rw [if_neg (by decide), if_neg (by decide), if_neg (by decide), if_neg (by decide), if_neg (by decide), if_pos (by decide), nI_clamp (by omega), cRg', dr_S, ck_t cTg', Ag]
    rfl
  · rw [if_neg (by decide), if_neg (by decide), if_neg (by decide), if_neg (by decide), if_neg (by decide), if_neg (by decide), if_pos (by decide), nI_clamp (by omega), cRg', dr_S, ck_t cTg', Ag]
    rfl
  · rw [if_neg (by decide), if_neg (by decide), if_neg (by decide), if_neg (by decide), if_neg (by decide), if_neg (by decide), if_neg (by decide), if_pos (by decide), nI_clamp (by omega), cRg', dr_S, ck_t cTg', Ag]
    rfl
  · rw [if_neg (by decide), if_neg (by decide), if_neg (by decide), if_neg (by decide), if_neg (by decide), if_neg (by decide), if_neg (by decide), if_neg (by decide), if_pos (by decide), nI_clamp (by omega), cRg', dr_S, ck_t cTg', Ag]
    unfold b_X11_fisher_n_124
    rcases c9 with z | z
    · rw [if_pos z]; show _ = some ((cutF 86 o M (34 + 2 * g) 9), M); rw [z]
    · rw [if_neg (by rw [z]; decide)]; show _ = some ((cutF 86 o M (34 + 2 * g) 9), M); rw [z]
  · rw [if_neg (by decide), if_neg (by decide), if_neg (by decide), if_neg (by decide), if_neg (by decide), if_neg (by decide), if_neg (by decide), if_neg (by decide), if_neg (by decide), if_pos (by decide), nI_clamp (by omega), cRg', dr_S, ck_t cTg', Ag]
    rfl
theorem c_pvn {b o np p c : Nat} {M : gMem} (L : LC o M) (h1 : mT M b = 10) (h2 : mR M b 1 = some o) (h4 : mI M o 5 = nI np) (hG : np ≤ 6) (hp : p < np) (hc : c < 7) : f_X11_pact_n M b (nI p) (nI c) = some ((pvA (cutF 86 o M) p c), M) := by
  have hp6 : p < 6 := by omega
  have h3 : mT M o = 7 := (L 0 (by omega)).1
  have cA : sC o (cutF 86 o M) M = M := sC_cut
  have ic : inb (nI p) 6 := (inbN (by omega)).mpr hp6
  have l4 := L 4 (by omega)
  have l74 := L (74 + 2 * p) (by omega)
  have l75 := L (75 + 2 * p) (by omega)
  have cT1' : mT M (o + 4) = 26 := l4.1
  have cL1' : mL M (o + 4) = 6 := l4.2.1
  have cR1 : mR M o 9 = some (o + 4) := (L 0 (by omega)).2.2 (by omega) 9
  have cRg' : mR M (o + 4) p = some (o + (74 + 2 * p)) := (l4.2.2 (by omega) p).trans (congrArg (Option.map (o + ·)) ((by decide : ∀ k, k < 6 → layR 4 k = some (74 + 2 * k)) p hp6))
  have cTg' : mT M (o + (74 + 2 * p)) = 5 := l74.1.trans ((by decide : ∀ i, i < 6 → layT (74 + 2 * i) = 5) p hp6)
  have cRf' : mR M (o + (74 + 2 * p)) 4 = some (o + (75 + 2 * p)) := (l74.2.2 (by omega) 4).trans (congrArg (Option.map (o + ·)) ((by decide : ∀ k, k < 6 → layR (74 + 2 * k) 4 = some (75 + 2 * k)) p hp6))
  have cTf' : mT M (o + (75 + 2 * p)) = 20 := l75.1.trans ((by decide : ∀ i, i < 6 → layT (75 + 2 * i) = 20) p hp6)
  have cLf' : mL M (o + (75 + 2 * p)) = 8 := l75.2.1.trans ((by decide : ∀ i, i < 6 → layL (75 + 2 * i) = 8) p hp6)
  have Ag : mI M (o + (74 + 2 * p)) = cutF 86 o M (74 + 2 * p) := (cutF_e (by omega)).symm
  have Af : mI M (o + (75 + 2 * p)) = cutF 86 o M (75 + 2 * p) := (cutF_e (by omega)).symm
  have spl : f_X5_splits M (o + (74 + 2 * p)) = some (if 0 ≤ cutF 86 o M (74 + 2 * p) 0 then 0 else 1, M) := by
    unfold f_X5_splits b_X5_splits_0 b_X5_splits_12
    rw [ck_t cTg', Ag]
    by_cases q : 0 ≤ cutF 86 o M (74 + 2 * p) 0
    · rw [if_pos q, if_pos q, ck_t (.inl rfl)]
    · rw [if_neg q, if_neg q, ck_t (.inr rfl)]
  have z := (in_bnd2 (x := nI p) (n := np) (by omega)).mpr ⟨p, hp, rfl⟩
  unfold f_X11_pact_n b_X11_pact_n_0
  rw [if_neg z.1, ck_t h1, dr_s h2, ck_t h3, h4, if_pos z.2, dr_s cR1, ck_t cT1', cL1', ck_t ic]
  obtain rfl | rfl | rfl | rfl | rfl | rfl | rfl : c = 0 ∨ c = 1 ∨ c = 2 ∨ c = 3 ∨ c = 4 ∨ c = 5 ∨ c = 6 := by omega
  · rw [if_pos (by decide), nI_clamp (by omega), cRg', dr_S, ck_t cTg', bd_s spl]
    unfold b_X11_pact_n_92
    by_cases q : 0 ≤ cutF 86 o M (74 + 2 * p) 0
    · rw [if_pos q, if_pos rfl]; show _ = some ((if 0 ≤ cutF 86 o M (74 + 2 * p) 0 then (1 : Int32) else 0), M); rw [if_pos q]
    · rw [if_neg q, if_neg (by decide)]; show _ = some ((if 0 ≤ cutF 86 o M (74 + 2 * p) 0 then (1 : Int32) else 0), M); rw [if_neg q]
  · rw [if_neg (by decide), if_pos (by decide), nI_clamp (by omega), cRg', dr_S, ck_t cTg', Ag]
    rfl
  · rw [if_neg (by decide), if_neg (by decide), if_pos (by decide), nI_clamp (by omega), cRg', dr_S, ck_t cTg', Ag]
    rfl
  · rw [if_neg (by decide), if_neg (by decide), if_neg (by decide), if_pos (by decide), nI_clamp (by omega), cRg', dr_S, ck_t cTg', dr_s cRf', ck_t cTf', cLf', ck_t (show inb (0 : Int32) 8 by decide), Af]
    rfl
  · rw [if_neg (by decide), if_neg (by decide), if_neg (by decide), if_neg (by decide), if_pos (by decide), nI_clamp (by omega), cRg', dr_S, ck_t cTg', Ag]
    rfl
  · rw [if_neg (by decide), if_neg (by decide), if_neg (by decide), if_neg (by decide), if_neg (by decide), if_pos (by decide), nI_clamp (by omega), cRg', dr_S, ck_t cTg', Ag]
    rfl
  · rw [if_neg (by decide), if_neg (by decide), if_neg (by decide), if_neg (by decide), if_neg (by decide), if_neg (by decide), if_pos (by decide), nI_clamp (by omega), cRg', dr_S, ck_t cTg', Ag]
    rfl
theorem c_tkn {b o G F g f : Nat} {M : gMem} (L : LC o M) (h1 : mT M b = 10) (h2 : mR M b 1 = some o) (g2 : mI M o 2 = nI G) (g3 : mI M o 3 = nI F) (hG : G ≤ 8) (hF : F ≤ 8) (hg : g < G) (hf : f < F) : f_X11_took_n M b (nI g) (nI f) = some (cutF 86 o M (35 + 2 * f) g, M) := by
  have hf8 : f < 8 := by omega
  have hg8 : g < 8 := by omega
  have h3 : mT M o = 7 := lTo L
  unfold f_X11_took_n b_X11_took_n_0
  rw [ck_t h1, bd_s (c_ckGn h1 h2 h3 g2 hG hg), ck_t h1, bd_s (c_ckFn h1 h2 h3 g3 hF hf), ck_t h1, dr_s h2, fcell L hf8, dr_s (lRf L hf8), ck_t (lTft L hf8), ck_t (show inb (nI g) (mL M (o + (35 + 2 * f))) by rw [lLft L hf8]; exact (inbN (by omega)).mpr hg8), nI_clamp (by omega), cutF_e (by omega)]

