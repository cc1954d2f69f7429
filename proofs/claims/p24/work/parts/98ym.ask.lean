/-! ## Pure: what is asked of grounds -/
theorem STv_c {Z : Nat → Nat} {b m o o' t n kb : Nat} {T : Nat → Nat} {M : gMem} (S : STv Z b m o o' t n kb T M) : mT M b = 10 ∧ mR M b 1 = some o ∧ LC o M ∧ mT M o = 7 ∧ sC o (cutF 86 o M) M = M :=
  ⟨S.2.1.1.1, S.2.1.1.2.2.1, S.2.1.2.2.2.1.1, (S.2.1.2.2.2.1.1 0 (by omega)).1, sC_cut⟩
theorem STv_m {Z : Nat → Nat} {b m o o' t n kb : Nat} {T : Nat → Nat} {M : gMem} (v : Int32) (S : STv Z b m o o' t n kb T M) : mT (wI M m 0 v) m = 13 ∧ mR (wI M m 0 v) m 11 = some t ∧ mR (wI M m 0 v) m 13 = some (m + 24) ∧ LSt m t (m + 24) (wI M m 0 v) ∧ bC 17 (m + 24) (cutF 17 (m + 24) M) (wI M m 0 v) = wI M m 0 v ∧ (∀ a, a ≠ m → mI (wI M m 0 v) a = mI M a) ∧ mT (wI M m 0 v) t = 12 ∧ mT (wI M m 0 v) (m + 24) = 11 ∧ m + 7 ≤ t := by
  obtain ⟨-, -, ⟨P, ⟨m11, m13, -⟩, ⟨LA, -⟩, ⟨v1, -⟩⟩, -, -⟩ := S
  have hI : ∀ a, a ≠ m → mI (wI M m 0 v) a = mI M a := fun a h => by funext k; exact wI_o (.inl h)
  refine ⟨P.1.1, m11, m13, LA, ?_, hI, LA.1.2.2.2.2, LA.1.1, v1⟩
  have e : cutF 17 (m + 24) M = cutF 17 (m + 24) (wI M m 0 v) := by
    funext d
    by_cases h : d < 17
    · rw [cutF_e h, cutF_e h, hI _ (by omega)]
    · unfold cutF
      rw [if_neg h, if_neg h]
  rw [e]
  exact bC_cut
theorem c_ckG_in {b o G a : Nat} {M : gMem} (h1 : mT M b = 10) (h2 : mR M b 1 = some o) (h3 : mT M o = 7) (h4 : mI M o 2 = nI G) (hG : G ≤ 8) (ha : a < G) : f_X11_checkGround M b (nI a) = some (.inr (), M) := by
  unfold f_X11_checkGround b_X11_checkGround_0
  have z := (in_bnd2 (x := nI a) (n := G) (by omega)).mpr ⟨a, ha, rfl⟩
  rw [if_neg z.1, ck_t h1, dr_s h2, ck_t h3, h4, if_pos z.2]
theorem c_ckG_out {b o G : Nat} {x : Int32} {M : gMem} (h1 : mT M b = 10) (h2 : mR M b 1 = some o) (h3 : mT M o = 7) (h4 : mI M o 2 = nI G) (hG : G ≤ 8) (ha : ¬ ∃ a, a < G ∧ x = nI a) : f_X11_checkGround M b x = some (.inl 2, M) := by
  unfold f_X11_checkGround b_X11_checkGround_0 b_X11_checkGround_15
  by_cases c : x < 0
  · rw [if_pos c]
  · rw [if_neg c, ck_t h1, dr_s h2, ck_t h3, h4, if_neg (fun z => ha ((in_bnd2 (by omega)).mp ⟨c, z⟩))]
theorem c_ckF_in {b o G a : Nat} {M : gMem} (h1 : mT M b = 10) (h2 : mR M b 1 = some o) (h3 : mT M o = 7) (h4 : mI M o 3 = nI G) (hG : G ≤ 8) (ha : a < G) : f_X11_checkFisher M b (nI a) = some (.inr (), M) := by
  unfold f_X11_checkFisher b_X11_checkFisher_0
  have z := (in_bnd2 (x := nI a) (n := G) (by omega)).mpr ⟨a, ha, rfl⟩
  rw [if_neg z.1, ck_t h1, dr_s h2, ck_t h3, h4, if_pos z.2]
theorem c_ckF_out {b o G : Nat} {x : Int32} {M : gMem} (h1 : mT M b = 10) (h2 : mR M b 1 = some o) (h3 : mT M o = 7) (h4 : mI M o 3 = nI G) (hG : G ≤ 8) (ha : ¬ ∃ a, a < G ∧ x = nI a) : f_X11_checkFisher M b x = some (.inl 2, M) := by
  unfold f_X11_checkFisher b_X11_checkFisher_0 b_X11_checkFisher_15
  by_cases c : x < 0
  · rw [if_pos c]
  · rw [if_neg c, ck_t h1, dr_s h2, ck_t h3, h4, if_neg (fun z => ha ((in_bnd2 (by omega)).mp ⟨c, z⟩))]
theorem bx_s {α β : Type} {o : Option ((Nat ⊕ α) × gMem)} {h : Nat → gMem → Option β} {k : α → gMem → Option β} {x : α} {M : gMem} (e : o = some (.inr x, M)) : bx o h k = k x M := by subst e; rfl
theorem bx_t {α β : Type} {o : Option ((Nat ⊕ α) × gMem)} {h : Nat → gMem → Option β} {k : α → gMem → Option β} {x : Nat} {M : gMem} (e : o = some (.inl x, M)) : bx o h k = h x M := by subst e; rfl
/-- what is told of a ground -/
def gvA (A : Nat → Nat → Int32) (g c : Nat) : Int32 := if c = 0 then sum5 (A (19 + 2 * g)) 5 else if c < 6 then A (19 + 2 * g) c else A (18 + 2 * g) (c - 6)
theorem c_gv {b o G g c : Nat} {M : gMem} (L : LC o M) (h1 : mT M b = 10) (h2 : mR M b 1 = some o) (h4 : mI M o 2 = nI G) (hG : G ≤ 8) (hg : g < G) (hc : c < 9) : f_X11_ground M b (nI g) (nI c) = some (.inr (gvA (cutF 86 o M) g c), M) := by
  have hg8 : g < 8 := by omega
  have h3 : mT M o = 7 := (L 0 (by omega)).1
  have cA : sC o (cutF 86 o M) M = M := sC_cut
  have ic : inb (nI g) 8 := (inbN (by omega)).mpr hg8
  have cT1' : mT M (o + 1) = 23 := (L 1 (by omega)).1
  have cL1' : mL M (o + 1) = 8 := (L 1 (by omega)).2.1
  have cR1 : mR M o 6 = some (o + 1) := by rw [← cA]; exact cR0_6 L
  have cRg' : mR M (o + 1) g = some (o + (18 + 2 * g)) := by rw [← cA]; exact cRrg L hg8
  have cTg' : mT M (o + (18 + 2 * g)) = 3 := by rw [← cA]; exact cTg L hg8
  have Ag : mI M (o + (18 + 2 * g)) = cutF 86 o M (18 + 2 * g) := (cutF_e (by omega)).symm
  have Af : mI M (o + (19 + 2 * g)) = cutF 86 o M (19 + 2 * g) := (cutF_e (by omega)).symm
  have cRf' : mR M (o + (18 + 2 * g)) 3 = some (o + (19 + 2 * g)) := by rw [← cA]; exact cRg L hg8
  have cTf' : mT M (o + (19 + 2 * g)) = 20 := by rw [← cA]; exact cTgf L hg8
  have cLf' : mL M (o + (19 + 2 * g)) = 6 := by rw [← cA]; exact cLgf L hg8
  have fish : f_X3_allFish M (o + (18 + 2 * g)) = some (sum5 (cutF 86 o M (19 + 2 * g)) 5, M) := by
    have z := s_gFish (sg := cutF 86 o M) (M := M) L hg8
    rw [cA] at z
    exact z
  unfold f_X11_ground b_X11_ground_0
  rw [ck_t h1, bx_s (c_ckG_in h1 h2 h3 h4 hG hg), ck_t h1, dr_s h2, ck_t h3, dr_s cR1, ck_t cT1', cL1', ck_t ic]
  obtain rfl | rfl | rfl | rfl | rfl | rfl | rfl | rfl | rfl : c = 0 ∨ c = 1 ∨ c = 2 ∨ c = 3 ∨ c = 4 ∨ c = 5 ∨ c = 6 ∨ c = 7 ∨ c = 8 := by omega
  · rw [if_pos (by decide), nI_clamp (by omega), cRg', dr_S, ck_t cTg', bd_s fish]
    rfl
  · rw [if_neg (by decide), if_pos (by decide)]
    unfold b_X11_ground_73
    rw [nI_clamp (by omega), cRg', dr_S, ck_t cTg', dr_s cRf', ck_t cTf', cLf', ck_t (show inb (nI 1) 6 from (inbN (by omega)).mpr (by omega)), nI_clamp (by omega), Af]
    rfl
  · rw [if_neg (by decide), if_neg (by decide), if_pos (by decide)]
    unfold b_X11_ground_73
    rw [nI_clamp (by omega), cRg', dr_S, ck_t cTg', dr_s cRf', ck_t cTf', cLf', ck_t (show inb (nI 2) 6 from (inbN (by omega)).mpr (by omega)), nI_clamp (by omega), Af]
    rfl
  · rw [if_neg (by decide), if_neg (by decide), if_neg (by decide), if_pos (by decide)]
    unfold b_X11_ground_73
    rw [nI_clamp (by omega), cRg', dr_S, ck_t cTg', dr_s cRf', ck_t cTf', cLf', ck_t (show inb (nI 3) 6 from (inbN (by omega)).mpr (by omega)), nI_clamp (by omega), Af]
    rfl
  · rw [if_neg (by decide), if_neg (by decide), if_neg (by decide), if_neg (by decide), if_pos (by decide)]
    unfold b_X11_ground_73
    rw [nI_clamp (by omega), cRg', dr_S, ck_t cTg', dr_s cRf', ck_t cTf', cLf', ck_t (show inb (nI 4) 6 from (inbN (by omega)).mpr (by omega)), nI_clamp (by omega), Af]
    rfl
  · rw [if_neg (by decide), if_neg (by decide), if_neg (by decide), if_neg (by decide), if_neg (by decide), if_pos (by decide)]
    unfold b_X11_ground_73
    rw [nI_clamp (by omega), cRg', dr_S, ck_t cTg', dr_s cRf', ck_t cTf', cLf', ck_t (show inb (nI 5) 6 from (inbN (by omega)).mpr (by omega)), nI_clamp (by omega), Af]
    rfl
  · rw [if_neg (by decide), if_neg (by decide), if_neg (by decide), if_neg (by decide), if_neg (by decide), if_neg (by decide), if_pos (by decide), nI_clamp (by omega), cRg', dr_S, ck_t cTg', Ag]
    rfl
  · rw [if_neg (by decide), if_neg (by decide), if_neg (by decide), if_neg (by decide), if_neg (by decide), if_neg (by decide), if_neg (by decide), if_pos (by decide), nI_clamp (by omega), cRg', dr_S, ck_t cTg', Ag]
    rfl
  · rw [if_neg (by decide), if_neg (by decide), if_neg (by decide), if_neg (by decide), if_neg (by decide), if_neg (by decide), if_neg (by decide), if_neg (by decide), if_pos (by decide), nI_clamp (by omega), cRg', dr_S, ck_t cTg', Ag]
    rfl
