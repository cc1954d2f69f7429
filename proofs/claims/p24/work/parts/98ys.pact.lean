/-! ## Pure: pact -/
def pvA (A : Nat → Nat → Int32) (p c : Nat) : Int32 := if c = 0 then (if 0 ≤ A (74 + 2 * p) 0 then 1 else 0) else if c = 1 then A (74 + 2 * p) 0 else if c = 2 then A (74 + 2 * p) 3 else if c = 3 then A (75 + 2 * p) 0 else A (74 + 2 * p) (c + 1)
theorem c_pv {b o np p c : Nat} {M : gMem} (L : LC o M) (h1 : mT M b = 10) (h2 : mR M b 1 = some o) (h4 : mI M o 5 = nI np) (hG : np ≤ 6) (hp : p < np) (hc : c < 7) : f_X11_pact M b (nI p) (nI c) = some (.inr (pvA (cutF 86 o M) p c), M) := by
  have hp6 : p < 6 := by omega
  have h3 : mT M o = 7 := (L 0 (by omega)).1
  have cA : sC o (cutF 86 o M) M = M := sC_cut
  have ic : inb (nI p) 6 := (inbN (by omega)).mpr hp6
  have l4 := L 4 (by omega)
  have l74 := L (74 + 2 * p) (by omega)
  have l75 := L (75 + 2 * p) (by omega)
  have cT1' : mT M (o + 4) = 26 := l4.1
  have cL1' : mL M (o + 4) = 6 := l4.2.1
  have cR1 : mR M o 9 = some (o + 4) := (L 0 (by omega)).2.2 (by omega) 9
  have cRg' : mR M (o + 4) p = some (o + (74 + 2 * p)) := (l4.2.2 (by omega) p).trans (congrArg (Option.map (o + ·)) ((by decide : ∀ k, k < 6 → layR 4 k = some (74 + 2 * k)) p hp6))
  have cTg' : mT M (o + (74 + 2 * p)) = 5 := l74.1.trans ((by decide : ∀ i, i < 6 → layT (74 + 2 * i) = 5) p hp6)
  have cRf' : mR M (o + (74 + 2 * p)) 4 = some (o + (75 + 2 * p)) := (l74.2.2 (by omega) 4).trans (congrArg (Option.map (o + ·)) ((by decide : ∀ k, k < 6 → layR (74 + 2 * k) 4 = some (75 + 2 * k)) p hp6))
  have cTf' : mT M (o + (75 + 2 * p)) = 20 := l75.1.trans ((by decide : ∀ i, i < 6 → layT (75 + 2 * i) = 20) p hp6)
  have cLf' : mL M (o + (75 + 2 * p)) = 8 := l75.2.1.trans ((by decide : ∀ i, i < 6 → layL (75 + 2 * i) = 8) p hp6)
  have Ag : mI M (o + (74 + 2 * p)) = cutF 86 o M (74 + 2 * p) := (cutF_e (by omega)).symm
  have Af : mI M (o + (75 + 2 * p)) = cutF 86 o M (75 + 2 * p) := (cutF_e (by omega)).symm
  have spl : f_X5_splits M (o + (74 + 2 * p)) = some (if 0 ≤ cutF 86 o M (74 + 2 * p) 0 then 0 else 1, M) := by
    unfold f_X5_splits b_X5_splits_0 b_X5_splits_12
    rw [ck_t cTg', Ag]
    by_cases q : 0 ≤ cutF 86 o M (74 + 2 * p) 0
    · rw [if_pos q, if_pos q, ck_t (.inl rfl)]
    · rw [if_neg q, if_neg q, ck_t (.inr rfl)]
  have z := (in_bnd2 (x := nI p) (n := np) (by omega)).mpr ⟨p, hp, rfl⟩
  unfold f_X11_pact b_X11_pact_0
  rw [if_neg z.1, ck_t h1, dr_s h2, ck_t h3, h4, if_pos z.2, dr_s cR1, ck_t cT1', cL1', ck_t ic]
  obtain rfl | rfl | rfl | rfl | rfl | rfl | rfl : c = 0 ∨ c = 1 ∨ c = 2 ∨ c = 3 ∨ c = 4 ∨ c = 5 ∨ c = 6 := by omega
  · rw [if_pos (by decide), nI_clamp (by omega), cRg', dr_S, ck_t cTg', bd_s spl]
    unfold b_X11_pact_92
    by_cases q : 0 ≤ cutF 86 o M (74 + 2 * p) 0
    · rw [if_pos q, if_pos rfl]; show _ = some (Sum.inr (if 0 ≤ cutF 86 o M (74 + 2 * p) 0 then (1 : Int32) else 0), M); rw [if_pos q]
    · rw [if_neg q, if_neg (by decide)]; show _ = some (Sum.inr (if 0 ≤ cutF 86 o M (74 + 2 * p) 0 then (1 : Int32) else 0), M); rw [if_neg q]
  · rw [if_neg (by decide), if_pos (by decide), nI_clamp (by omega), cRg', dr_S, ck_t cTg', Ag]
    rfl
  · rw [if_neg (by decide), if_neg (by decide), if_pos (by decide), nI_clamp (by omega), cRg', dr_S, ck_t cTg', Ag]
    rfl
  · rw [if_neg (by decide), if_neg (by decide), if_neg (by decide), if_pos (by decide), nI_clamp (by omega), cRg', dr_S, ck_t cTg', dr_s cRf', ck_t cTf', cLf', ck_t (show inb (0 : Int32) 8 by decide), Af]
    rfl
  · rw [if_neg (by decide), if_neg (by decide), if_neg (by decide), if_neg (by decide), if_pos (by decide), nI_clamp (by omega), cRg', dr_S, ck_t cTg', Ag]
    rfl
  · rw [if_neg (by decide), if_neg (by decide), if_neg (by decide), if_neg (by decide), if_neg (by decide), if_pos (by decide), nI_clamp (by omega), cRg', dr_S, ck_t cTg', Ag]
    rfl
  · rw [if_neg (by decide), if_neg (by decide), if_neg (by decide), if_neg (by decide), if_neg (by decide), if_neg (by decide), if_pos (by decide), nI_clamp (by omega), cRg', dr_S, ck_t cTg', Ag]
    rfl
