/-! ## Pure: what is asked of grounds -/
theorem STv_c {Z : Nat → Nat} {b m o o' t n kb : Nat} {T : Nat → Nat} {M : gMem} (S : STv Z b m o o' t n kb T M) : mT M b = 10 ∧ mR M b 1 = some o ∧ LC o M ∧ mT M o = 7 ∧ sC o (cutF 86 o M) M = M :=
  ⟨S.2.1.1.1, S.2.1.1.2.2.1, S.2.1.2.2.2.1.1, (S.2.1.2.2.2.1.1 0 (by omega)).1, sC_cut⟩
theorem STv_m {Z : Nat → Nat} {b m o o' t n kb : Nat} {T : Nat → Nat} {M : gMem} (v : Int32) (S : STv Z b m o o' t n kb T M) : mT (wI M m 0 v) m = 13 ∧ mR (wI M m 0 v) m 11 = some t ∧ mR (wI M m 0 v) m 13 = some (m + 24) ∧ LSt m t (m + 24) (wI M m 0 v) ∧ bC 17 (m + 24) (cutF 17 (m + 24) M) (wI M m 0 v) = wI M m 0 v ∧ (∀ a, a ≠ m → mI (wI M m 0 v) a = mI M a) ∧ mT (wI M m 0 v) t = 12 ∧ mT (wI M m 0 v) (m + 24) = 11 ∧ m + 7 ≤ t := by
  obtain ⟨-, -, ⟨P, ⟨m11, m13, -⟩, ⟨LA, -⟩, ⟨v1, -⟩⟩, -, -⟩ := S
  have hI : ∀ a, a ≠ m → mI (wI M m 0 v) a = mI M a := fun a h => by funext k; exact wI_o (.inl h)
  refine ⟨P.1.1, m11, m13, LA, ?_, hI, LA.1.2.2.2.2, LA.1.1, v1⟩
  have e : cutF 17 (m + 24) M = cutF 17 (m + 24) (wI M m 0 v) := by
    funext d
    by_cases h : d < 17
    · rw [cutF_e h, cutF_e h, hI _ (by omega)]
    · unfold cutF
      rw [if_neg h, if_neg h]
  rw [e]
  exact bC_cut
theorem c_ckG_in {b o G a : Nat} {M : gMem} (h1 : mT M b = 10) (h2 : mR M b 1 = some o) (h3 : mT M o = 7) (h4 : mI M o 2 = nI G) (hG : G ≤ 8) (ha : a < G) : f_X11_checkGround M b (nI a) = some (.inr (), M) := by
  unfold f_X11_checkGround b_X11_checkGround_0
  have z := (in_bnd2 (x := nI a) (n := G) (by omega)).mpr ⟨a, ha, rfl⟩
  rw [if_neg z.1, ck_t h1, dr_s h2, ck_t h3, h4, if_pos z.2]
theorem c_ckG_out {b o G : Nat} {x : Int32} {M : gMem} (h1 : mT M b = 10) (h2 : mR M b 1 = some o) (h3 : mT M o = 7) (h4 : mI M o 2 = nI G) (hG : G ≤ 8) (ha : ¬ ∃ a, a < G ∧ x = nI a) : f_X11_checkGround M b x = some (.inl 2, M) := by
  unfold f_X11_checkGround b_X11_checkGround_0 b_X11_checkGround_15
  by_cases c : x < 0
  · rw [if_pos c]
  · rw [if_neg c, ck_t h1, dr_s h2, ck_t h3, h4, if_neg (fun z => ha ((in_bnd2 (by omega)).mp ⟨c, z⟩))]
theorem c_ckF_in {b o G a : Nat} {M : gMem} (h1 : mT M b = 10) (h2 : mR M b 1 = some o) (h3 : mT M o = 7) (h4 : mI M o 3 = nI G) (hG : G ≤ 8) (ha : a < G) : f_X11_checkFisher M b (nI a) = some (.inr (), M) := by
  unfold f_X11_checkFisher b_X11_checkFisher_0
  have z := (in_bnd2 (x := nI a) (n := G) (by omega)).mpr ⟨a, ha, rfl⟩
  rw [if_neg z.1, ck_t h1, dr_s h2, ck_t h3, h4, if_pos z.2]
theorem c_ckF_out {b o G : Nat} {x : Int32} {M : gMem} (h1 : mT M b = 10) (h2 : mR M b 1 = some o) (h3 : mT M o = 7) (h4 : mI M o 3 = nI G) (hG : G ≤ 8) (ha : ¬ ∃ a, a < G ∧ x = nI a) : f_X11_checkFisher M b x = some (.inl 2, M) := by
  unfold f_X11_checkFisher b_X11_checkFisher_0 b_X11_checkFisher_15
  by_cases c : x < 0
  · rw [if_pos c]
  · rw [if_neg c, ck_t h1, dr_s h2, ck_t h3, h4, if_neg (fun z => ha ((in_bnd2 (by omega)).mp ⟨c, z⟩))]
theorem m_inN {M : gMem} {n : Nat} {x : Int32} (hn : n ≤ 2000) : ((∃ a, a < n ∧ x = nI a) → f_X14_isIn M x 0 (nI n - 1) = some (1, M)) ∧ ((¬ ∃ a, a < n ∧ x = nI a) → f_X14_isIn M x 0 (nI n - 1) = some (0, M)) := by
  refine ⟨fun h => ?_, fun h => ?_⟩
  · rw [m_isIn, if_neg (fun z => (in_bnd hn).mp z h)]
  · rw [m_isIn, if_pos ((in_bnd hn).mpr h)]
theorem m_isG {m t G : Nat} {x : Int32} {X : gMem} (h1 : mT X m = 13) (h2 : mR X m 11 = some t) (h3 : mT X t = 12) (h4 : mI X t 0 = nI G) (hG : G ≤ 8) : ((∃ a, a < G ∧ x = nI a) → f_X14_isGround X m x = some (1, X)) ∧ ((¬ ∃ a, a < G ∧ x = nI a) → f_X14_isGround X m x = some (0, X)) := by
  unfold f_X14_isGround b_X14_isGround_0
  refine ⟨fun h => ?_, fun h => ?_⟩
  · rw [ck_t h1, dr_s h2, ck_t h3, h4, bd_s ((m_inN (by omega)).1 h), ck_t (.inr rfl)]
  · rw [ck_t h1, dr_s h2, ck_t h3, h4, bd_s ((m_inN (by omega)).2 h), ck_t (.inl rfl)]
theorem m_isF {m t G : Nat} {x : Int32} {X : gMem} (h1 : mT X m = 13) (h2 : mR X m 11 = some t) (h3 : mT X t = 12) (h4 : mI X t 4 = nI G) (hG : G ≤ 8) : ((∃ a, a < G ∧ x = nI a) → f_X14_isFisher X m x = some (1, X)) ∧ ((¬ ∃ a, a < G ∧ x = nI a) → f_X14_isFisher X m x = some (0, X)) := by
  unfold f_X14_isFisher b_X14_isFisher_0
  refine ⟨fun h => ?_, fun h => ?_⟩
  · rw [ck_t h1, dr_s h2, ck_t h3, h4, bd_s ((m_inN (by omega)).1 h), ck_t (.inr rfl)]
  · rw [ck_t h1, dr_s h2, ck_t h3, h4, bd_s ((m_inN (by omega)).2 h), ck_t (.inl rfl)]
theorem bx_s {α β : Type} {o : Option ((Nat ⊕ α) × gMem)} {h : Nat → gMem → Option β} {k : α → gMem → Option β} {x : α} {M : gMem} (e : o = some (.inr x, M)) : bx o h k = k x M := by subst e; rfl
theorem bx_t {α β : Type} {o : Option ((Nat ⊕ α) × gMem)} {h : Nat → gMem → Option β} {k : α → gMem → Option β} {x : Nat} {M : gMem} (e : o = some (.inl x, M)) : bx o h k = h x M := by subst e; rfl
/-- what the reference has taken at a ground, and what a fisher has taken -/
theorem r_takenAt {m t F g : Nat} {st : Nat → Nat → Int32} {X : gMem} (L : LSt m t (m + 24) X) (h13 : mR X m 13 = some (m + 24)) (st3 : ∀ k, mI X (m + 24 + 3) k = st 3 k) (h4 : mI X t 4 = nI F) (hF : F ≤ 8) (hg : g < 8) : f_X14_takenAt X m (nI g) = some (sumN (fun f => st 3 (8 * g + f)) F, X) := by
  have hT := L.2.2.1 3 (by omega) (by omega)
  unfold f_X14_takenAt b_X14_takenAt_0 lp_X14_takenAt_4
  refine lp_seq (fun j => (X, sumN (fun f => st 3 (8 * g + f)) j, nI j)) 0 F (Nat.zero_le _) (fun j _ hj => ?_) ?_
  · show bb_X14_takenAt_4 X m (nI g) _ (nI j) = _
    unfold bb_X14_takenAt_4
    have q1 : ¬ nI F ≤ nI j := fun q => by have := (nI_leI (by omega) (by omega)).mp q; omega
    have i2 : inb (nI (8 * g + j)) (lenS 3) := (inbN (by omega)).mpr (show 8 * g + j < 64 by omega)
    rw [ck_t L.1.2.2.1, dr_s L.1.2.2.2.1, ck_t L.1.2.2.2.2, h4, if_neg q1, dr_s h13, ck_t L.1.1, dr_s hT.2.2, ck_t hT.1, m8, nI_add, hT.2.1, ck_t i2, nI_clamp (by omega), st3, sumN, nI_1]
  · show bb_X14_takenAt_4 X m (nI g) _ (nI F) = _
    unfold bb_X14_takenAt_4
    rw [ck_t L.1.2.2.1, dr_s L.1.2.2.2.1, ck_t L.1.2.2.2.2, h4, if_pos (nI_le (Nat.le_refl _) (by omega))]
    rfl
theorem r_takenBy {m t G f : Nat} {st : Nat → Nat → Int32} {X : gMem} (L : LSt m t (m + 24) X) (h13 : mR X m 13 = some (m + 24)) (st3 : ∀ k, mI X (m + 24 + 3) k = st 3 k) (h0 : mI X t 0 = nI G) (hG : G ≤ 8) (hf : f < 8) : f_X14_takenBy X m (nI f) = some (sumN (fun g => st 3 (8 * g + f)) G, X) := by
  have hT := L.2.2.1 3 (by omega) (by omega)
  unfold f_X14_takenBy b_X14_takenBy_0 lp_X14_takenBy_4
  refine lp_seq (fun j => (X, sumN (fun g => st 3 (8 * g + f)) j, nI j)) 0 G (Nat.zero_le _) (fun j _ hj => ?_) ?_
  · show bb_X14_takenBy_4 X m (nI f) _ (nI j) = _
    unfold bb_X14_takenBy_4
    have q1 : ¬ nI G ≤ nI j := fun q => by have := (nI_leI (by omega) (by omega)).mp q; omega
    have i2 : inb (nI (8 * j + f)) (lenS 3) := (inbN (by omega)).mpr (show 8 * j + f < 64 by omega)
    rw [ck_t L.1.2.2.1, dr_s L.1.2.2.2.1, ck_t L.1.2.2.2.2, h0, if_neg q1, dr_s h13, ck_t L.1.1, dr_s hT.2.2, ck_t hT.1, m8, nI_add, hT.2.1, ck_t i2, nI_clamp (by omega), st3, sumN, nI_1]
  · show bb_X14_takenBy_4 X m (nI f) _ (nI G) = _
    unfold bb_X14_takenBy_4
    rw [ck_t L.1.2.2.1, dr_s L.1.2.2.2.1, ck_t L.1.2.2.2.2, h0, if_pos (nI_le (Nat.le_refl _) (by omega))]
    rfl
theorem m_inC {M : gMem} {n : Nat} {x u : Int32} (hu : u = nI n - 1) (hn : n ≤ 2000) : ((∃ a, a < n ∧ x = nI a) → f_X14_isIn M x 0 u = some (1, M)) ∧ ((¬ ∃ a, a < n ∧ x = nI a) → f_X14_isIn M x 0 u = some (0, M)) := by
  subst hu
  exact m_inN hn
/-- what is told of a ground -/
def gvA (A : Nat → Nat → Int32) (g c : Nat) : Int32 := if c = 0 then sum5 (A (19 + 2 * g)) 5 else if c < 6 then A (19 + 2 * g) c else A (18 + 2 * g) (c - 6)
theorem c_gv {b o G g c : Nat} {M : gMem} (L : LC o M) (h1 : mT M b = 10) (h2 : mR M b 1 = some o) (h4 : mI M o 2 = nI G) (hG : G ≤ 8) (hg : g < G) (hc : c < 9) : f_X11_ground M b (nI g) (nI c) = some (.inr (gvA (cutF 86 o M) g c), M) := by
  have hg8 : g < 8 := by omega
  have h3 : mT M o = 7 := (L 0 (by omega)).1
  have cA : sC o (cutF 86 o M) M = M := sC_cut
  have ic : inb (nI g) 8 := (inbN (by omega)).mpr hg8
  have cT1' : mT M (o + 1) = 23 := (L 1 (by omega)).1
  have cL1' : mL M (o + 1) = 8 := (L 1 (by omega)).2.1
  have cR1 : mR M o 6 = some (o + 1) := by rw [← cA]; exact cR0_6 L
  have cRg' : mR M (o + 1) g = some (o + (18 + 2 * g)) := by rw [← cA]; exact cRrg L hg8
  have cTg' : mT M (o + (18 + 2 * g)) = 3 := by rw [← cA]; exact cTg L hg8
  have Ag : mI M (o + (18 + 2 * g)) = cutF 86 o M (18 + 2 * g) := (cutF_e (by omega)).symm
  have Af : mI M (o + (19 + 2 * g)) = cutF 86 o M (19 + 2 * g) := (cutF_e (by omega)).symm
  have cRf' : mR M (o + (18 + 2 * g)) 3 = some (o + (19 + 2 * g)) := by rw [← cA]; exact cRg L hg8
  have cTf' : mT M (o + (19 + 2 * g)) = 20 := by rw [← cA]; exact cTgf L hg8
  have cLf' : mL M (o + (19 + 2 * g)) = 6 := by rw [← cA]; exact cLgf L hg8
  have fish : f_X3_allFish M (o + (18 + 2 * g)) = some (sum5 (cutF 86 o M (19 + 2 * g)) 5, M) := by
    have z := s_gFish (sg := cutF 86 o M) (M := M) L hg8
    rw [cA] at z
    exact z
  unfold f_X11_ground b_X11_ground_0
  rw [ck_t h1, bx_s (c_ckG_in h1 h2 h3 h4 hG hg), ck_t h1, dr_s h2, ck_t h3, dr_s cR1, ck_t cT1', cL1', ck_t ic]
  obtain rfl | rfl | rfl | rfl | rfl | rfl | rfl | rfl | rfl : c = 0 ∨ c = 1 ∨ c = 2 ∨ c = 3 ∨ c = 4 ∨ c = 5 ∨ c = 6 ∨ c = 7 ∨ c = 8 := by omega
  · rw [if_pos (by decide), nI_clamp (by omega), cRg', dr_S, ck_t cTg', bd_s fish]
    rfl
  · rw [if_neg (by decide), if_pos (by decide)]
    unfold b_X11_ground_73
    rw [nI_clamp (by omega), cRg', dr_S, ck_t cTg', dr_s cRf', ck_t cTf', cLf', ck_t (show inb (nI 1) 6 from (inbN (by omega)).mpr (by omega)), nI_clamp (by omega), Af]
    rfl
  · rw [if_neg (by decide), if_neg (by decide), if_pos (by decide)]
    unfold b_X11_ground_73
    rw [nI_clamp (by omega), cRg', dr_S, ck_t cTg', dr_s cRf', ck_t cTf', cLf', ck_t (show inb (nI 2) 6 from (inbN (by omega)).mpr (by omega)), nI_clamp (by omega), Af]
    rfl
  · rw [if_neg (by decide), if_neg (by decide), if_neg (by decide), if_pos (by decide)]
    unfold b_X11_ground_73
    rw [nI_clamp (by omega), cRg', dr_S, ck_t cTg', dr_s cRf', ck_t cTf', cLf', ck_t (show inb (nI 3) 6 from (inbN (by omega)).mpr (by omega)), nI_clamp (by omega), Af]
    rfl
  · rw [if_neg (by decide), if_neg (by decide), if_neg (by decide), if_neg (by decide), if_pos (by decide)]
    unfold b_X11_ground_73
    rw [nI_clamp (by omega), cRg', dr_S, ck_t cTg', dr_s cRf', ck_t cTf', cLf', ck_t (show inb (nI 4) 6 from (inbN (by omega)).mpr (by omega)), nI_clamp (by omega), Af]
    rfl
  · rw [if_neg (by decide), if_neg (by decide), if_neg (by decide), if_neg (by decide), if_neg (by decide), if_pos (by decide)]
    unfold b_X11_ground_73
    rw [nI_clamp (by omega), cRg', dr_S, ck_t cTg', dr_s cRf', ck_t cTf', cLf', ck_t (show inb (nI 5) 6 from (inbN (by omega)).mpr (by omega)), nI_clamp (by omega), Af]
    rfl
  · rw [if_neg (by decide), if_neg (by decide), if_neg (by decide), if_neg (by decide), if_neg (by decide), if_neg (by decide), if_pos (by decide), nI_clamp (by omega), cRg', dr_S, ck_t cTg', Ag]
    rfl
  · rw [if_neg (by decide), if_neg (by decide), if_neg (by decide), if_neg (by decide), if_neg (by decide), if_neg (by decide), if_neg (by decide), if_pos (by decide), nI_clamp (by omega), cRg', dr_S, ck_t cTg', Ag]
    rfl
  · rw [if_neg (by decide), if_neg (by decide), if_neg (by decide), if_neg (by decide), if_neg (by decide), if_neg (by decide), if_neg (by decide), if_neg (by decide), if_pos (by decide), nI_clamp (by omega), cRg', dr_S, ck_t cTg', Ag]
    rfl
theorem m_gv {m t F G np g c : Nat} {A st : Nat → Nat → Int32} {X : gMem} (LA : LSt m t (m + 24) X) (e1 : mT X m = 13) (e2 : mR X m 11 = some t) (e3 : mR X m 13 = some (m + 24)) (e4 : mT X t = 12) (e5 : mT X (m + 24) = 11) (eS : bC 17 (m + 24) st X = X) (x4 : mI X t 4 = nI F) (hF : F ≤ 8) (hG : G ≤ 8) (hg : g < G) (tg : mI X (t + 1) g = A (18 + 2 * g) 0) (R : RS A st F G np) (tk0 : A (18 + 2 * g) 2 = sumN (fun f => A (35 + 2 * f) g) F) (hc : c < 9) : f_X14_groundTold X m (nI g) (nI c) = some (gvA A g c, X) := by
  have st1 : ∀ k, mI X (m + 24 + 1) k = st 1 k := fun k => by rw [← eS]; exact bC_I (by omega)
  have st2 : ∀ k, mI X (m + 24 + 2) k = st 2 k := fun k => by rw [← eS]; exact bC_I (by omega)
  have h1 := LA.2.2.1 1 (by omega) (by omega)
  have h2 := LA.2.2.1 2 (by omega) (by omega)
  have hd : (mT X (t + 1) = 20 ∧ mL X (t + 1) = lenD 1) ∧ mR X t 1 = some (t + 1) := ⟨LA.2.2.2.1 1 (by omega) (by omega), LA.2.2.2.2 1 (by omega) (by decide)⟩
  have tk : sumN (fun f => st 3 (8 * g + f)) F = A (18 + 2 * g) 2 := by
    rw [tk0]
    exact sumN_c F fun f hf => R.2.2.2.1 g f hg hf
  have fish : f_X12_fishAt X (m + 24) (nI g) = some (sum5 (A (19 + 2 * g)) 5, X) := by
    have z := r_fishAt (st := st) (M := X) LA (g := g) (by omega)
    rw [eS] at z
    rw [z, sum5_N 5 (f := A (19 + 2 * g)) (h := fun k => st 1 (5 * g + k)) (fun k hk => (R.1.2.1 g k hg hk).symm)]
  unfold f_X14_groundTold b_X14_groundTold_0 b_X14_groundTold_75
  obtain rfl | rfl | rfl | rfl | rfl | rfl | rfl | rfl | rfl : c = 0 ∨ c = 1 ∨ c = 2 ∨ c = 3 ∨ c = 4 ∨ c = 5 ∨ c = 6 ∨ c = 7 ∨ c = 8 := by omega
  · rw [if_pos (by decide), ck_t e1, dr_s e3, ck_t e5, bd_s fish]
    rfl
  · rw [if_neg (by decide), if_neg (by decide), ck_t e1, dr_s e3, ck_t e5, dr_s h1.2.2, ck_t h1.1, h1.2.1, m5, nI_add, sb1 (by omega), ck_t (show inb (nI (5 * g + 1 - 1)) (lenS 1) from (inbN (by omega)).mpr (show _ < 40 by omega)), nI_clamp (by omega), st1, show 5 * g + 1 - 1 = 5 * g + 0 by omega, R.1.2.1 g 0 hg (by omega)]
    rfl
  · rw [if_neg (by decide), if_neg (by decide), ck_t e1, dr_s e3, ck_t e5, dr_s h1.2.2, ck_t h1.1, h1.2.1, m5, nI_add, sb1 (by omega), ck_t (show inb (nI (5 * g + 2 - 1)) (lenS 1) from (inbN (by omega)).mpr (show _ < 40 by omega)), nI_clamp (by omega), st1, show 5 * g + 2 - 1 = 5 * g + 1 by omega, R.1.2.1 g 1 hg (by omega)]
    rfl
  · rw [if_neg (by decide), if_neg (by decide), ck_t e1, dr_s e3, ck_t e5, dr_s h1.2.2, ck_t h1.1, h1.2.1, m5, nI_add, sb1 (by omega), ck_t (show inb (nI (5 * g + 3 - 1)) (lenS 1) from (inbN (by omega)).mpr (show _ < 40 by omega)), nI_clamp (by omega), st1, show 5 * g + 3 - 1 = 5 * g + 2 by omega, R.1.2.1 g 2 hg (by omega)]
    rfl
  · rw [if_neg (by decide), if_neg (by decide), ck_t e1, dr_s e3, ck_t e5, dr_s h1.2.2, ck_t h1.1, h1.2.1, m5, nI_add, sb1 (by omega), ck_t (show inb (nI (5 * g + 4 - 1)) (lenS 1) from (inbN (by omega)).mpr (show _ < 40 by omega)), nI_clamp (by omega), st1, show 5 * g + 4 - 1 = 5 * g + 3 by omega, R.1.2.1 g 3 hg (by omega)]
    rfl
  · rw [if_neg (by decide), if_neg (by decide), ck_t e1, dr_s e3, ck_t e5, dr_s h1.2.2, ck_t h1.1, h1.2.1, m5, nI_add, sb1 (by omega), ck_t (show inb (nI (5 * g + 5 - 1)) (lenS 1) from (inbN (by omega)).mpr (show _ < 40 by omega)), nI_clamp (by omega), st1, show 5 * g + 5 - 1 = 5 * g + 4 by omega, R.1.2.1 g 4 hg (by omega)]
    rfl
  · rw [if_neg (by decide), if_pos (by decide), if_pos (by decide), ck_t e1, dr_s e2, ck_t e4, dr_s hd.2, ck_t hd.1.1, hd.1.2, ck_t (show inb (nI g) (lenD 1) from (inbN (by omega)).mpr (show _ < 8 by omega)), nI_clamp (by omega), tg]
    rfl
  · rw [if_neg (by decide), if_pos (by decide), if_neg (by decide), if_pos (by decide), ck_t e1, dr_s e3, ck_t e5, dr_s h2.2.2, ck_t h2.1, h2.2.1, ck_t (show inb (nI g) (lenS 2) from (inbN (by omega)).mpr (show _ < 8 by omega)), nI_clamp (by omega), st2, R.1.2.2.1 g hg]
    rfl
  · rw [if_neg (by decide), if_pos (by decide), if_neg (by decide), if_neg (by decide), ck_t e1, bd_s (r_takenAt LA e3 (fun k => by rw [← eS]; exact bC_I (by omega)) x4 hF (by omega)), tk]
    rfl
theorem T_ground {Z : Nat → Nat} {b m o o' t n kb : Nat} {T : Nat → Nat} {M : gMem} {x y : Int32} (S : STv Z b m o o' t n kb T M) : ∃ r v M2, f_X11_ground M b x y = some (r, M) ∧ f_X14_ground M m x y = some (v, M2) ∧ AGR 2 9 r v (mI M2 m 0) ∧ STv Z b m o o' t n kb T M2 ∧ mN M2 = mN M := by
  obtain ⟨c1, c2, LCo, c3, cA⟩ := STv_c S
  obtain ⟨e1, e2, e3, LA, eS, eI, e4, e5, e6⟩ := STv_m 0 S
  obtain ⟨pg, len, F, G, np, nO, -, -, W, D, TRr, R, V⟩ := S.2.2.2.1
  have hG : G ≤ 8 := W.2.1
  have hF : F ≤ 8 := W.2.2.2.1
  have A0 : mI M o = cutF 86 o M 0 := (cutF_e (n := 86) (d := 0) (by omega)).symm
  have g2 : mI M o 2 = nI G := by rw [A0]; exact W.1
  have tI : ∀ j, mI (wI M m 0 0) (t + j) = mI M (t + j) := fun j => eI _ (by omega)
  have x0 : mI (wI M m 0 0) t 0 = nI G := by rw [eI t (by omega)]; exact TRr.1.1
  have x4 : mI (wI M m 0 0) t 4 = nI F := by rw [eI t (by omega)]; exact TRr.1.2.1
  have bad : b_X14_ground_32 (wI M m 0 0) m = some (0, wI (wI M m 0 0) m 0 1) := by
    unfold b_X14_ground_32 b_X14_ground_37
    rw [ck_t e1, bd_s (m_no e1)]
  by_cases hx : ∃ a, a < G ∧ x = nI a
  · have xx := hx
    obtain ⟨g, hg, hxg⟩ := xx
    subst hxg
    have ckc := c_ckG_in (a := g) c1 c2 c3 g2 hG hg
    by_cases hy : ∃ c, c < 9 ∧ y = nI c
    · have yy := hy
      obtain ⟨c, hc, hyc⟩ := yy
      subst hyc
      have mg := m_gv (c := c) (A := cutF 86 o M) LA e1 e2 e3 e4 e5 eS x4 hF hG hg (by rw [tI 1]; exact TRr.2.1 g hg) R (V.2.1 g hg) hc
      refine ⟨.inr (gvA (cutF 86 o M) g c), gvA (cutF 86 o M) g c, wI M m 0 0, c_gv LCo c1 c2 g2 hG hg hc, ?_, .inl ⟨rfl, wI_e _ _ _ _⟩, STv_0 S, rfl⟩
      unfold f_X14_ground b_X14_ground_0
      rw [ck_t S.2.2.1.1.1.1, lw_S, bd_s ((m_isG e1 e2 e4 x0 hG).1 hx), if_neg (show ¬ (1 : Int32) = 0 by decide), bd_s ((m_inC (n := 9) (by decide) (by omega)).1 hy), if_neg (show ¬ (1 : Int32) = 0 by decide), ck_t e1, bd_s mg]
      rfl
    · have ny : ∀ c, c < 9 → ¬ y = nI c := fun c h z => hy ⟨c, h, z⟩
      refine ⟨.inl 2, 0, wI (wI M m 0 0) m 0 1, ?_, ?_, .inr (.inl ⟨rfl, wI_e _ _ _ _⟩), STv_0 (STv_0 S), rfl⟩
      · unfold f_X11_ground b_X11_ground_0
        have hg8 : g < 8 := by omega
        rw [ck_t c1, bx_s ckc, ck_t c1, dr_s c2, ck_t c3, dr_s (show mR M o 6 = some (o + 1) from (LCo 0 (by omega)).2.2 (by omega) 6), ck_t (show mT M (o + 1) = 23 from (LCo 1 (by omega)).1), show mL M (o + 1) = 8 from (LCo 1 (by omega)).2.1, ck_t (show inb (nI g) 8 from (inbN (by omega)).mpr hg8), if_neg (show ¬ y = (0 : Int32) from ny 0 (by omega)), if_neg (show ¬ y = (1 : Int32) from ny 1 (by omega)), if_neg (show ¬ y = (2 : Int32) from ny 2 (by omega)), if_neg (show ¬ y = (3 : Int32) from ny 3 (by omega)), if_neg (show ¬ y = (4 : Int32) from ny 4 (by omega)), if_neg (show ¬ y = (5 : Int32) from ny 5 (by omega)), if_neg (show ¬ y = (6 : Int32) from ny 6 (by omega)), if_neg (show ¬ y = (7 : Int32) from ny 7 (by omega)), if_neg (show ¬ y = (8 : Int32) from ny 8 (by omega))]
      · unfold f_X14_ground b_X14_ground_0
        rw [ck_t S.2.2.1.1.1.1, lw_S, bd_s ((m_isG e1 e2 e4 x0 hG).1 hx), if_neg (show ¬ (1 : Int32) = 0 by decide), bd_s ((m_inC (n := 9) (by decide) (by omega)).2 hy), if_pos rfl]
        exact bad
  · refine ⟨.inl 2, 0, wI (wI M m 0 0) m 0 1, ?_, ?_, .inr (.inl ⟨rfl, wI_e _ _ _ _⟩), STv_0 (STv_0 S), rfl⟩
    · unfold f_X11_ground b_X11_ground_0
      rw [ck_t c1, bx_t (c_ckG_out c1 c2 c3 g2 hG hx)]
    · unfold f_X14_ground b_X14_ground_0
      rw [ck_t S.2.2.1.1.1.1, lw_S, bd_s ((m_isG e1 e2 e4 x0 hG).2 hx), if_pos rfl]
      exact bad
