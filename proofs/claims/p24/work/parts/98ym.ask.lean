/-! ## Pure: what is asked of grounds -/
theorem STv_c {Z : Nat → Nat} {b m o o' t n kb : Nat} {T : Nat → Nat} {M : gMem} (S : STv Z b m o o' t n kb T M) : mT M b = 10 ∧ mR M b 1 = some o ∧ LC o M ∧ mT M o = 7 ∧ sC o (cutF 86 o M) M = M := sorry

theorem STv_m {Z : Nat → Nat} {b m o o' t n kb : Nat} {T : Nat → Nat} {M : gMem} (v : Int32) (S : STv Z b m o o' t n kb T M) : mT (wI M m 0 v) m = 13 ∧ mR (wI M m 0 v) m 11 = some t ∧ mR (wI M m 0 v) m 13 = some (m + 24) ∧ LSt m t (m + 24) (wI M m 0 v) ∧ bC 17 (m + 24) (cutF 17 (m + 24) M) (wI M m 0 v) = wI M m 0 v ∧ (∀ a, a ≠ m → mI (wI M m 0 v) a = mI M a) ∧ mT (wI M m 0 v) t = 12 ∧ mT (wI M m 0 v) (m + 24) = 11 ∧ m + 7 ≤ t := sorry

theorem c_ckG_in {b o G a : Nat} {M : gMem} (h1 : mT M b = 10) (h2 : mR M b 1 = some o) (h3 : mT M o = 7) (h4 : mI M o 2 = nI G) (hG : G ≤ 8) (ha : a < G) : f_X11_checkGround M b (nI a) = some (.inr (), M) := sorry

theorem c_ckG_out {b o G : Nat} {x : Int32} {M : gMem} (h1 : mT M b = 10) (h2 : mR M b 1 = some o) (h3 : mT M o = 7) (h4 : mI M o 2 = nI G) (hG : G ≤ 8) (ha : ¬ ∃ a, a < G ∧ x = nI a) : f_X11_checkGround M b x = some (.inl 2, M) := sorry

theorem c_ckF_in {b o G a : Nat} {M : gMem} (h1 : mT M b = 10) (h2 : mR M b 1 = some o) (h3 : mT M o = 7) (h4 : mI M o 3 = nI G) (hG : G ≤ 8) (ha : a < G) : f_X11_checkFisher M b (nI a) = some (.inr (), M) := sorry

theorem c_ckF_out {b o G : Nat} {x : Int32} {M : gMem} (h1 : mT M b = 10) (h2 : mR M b 1 = some o) (h3 : mT M o = 7) (h4 : mI M o 3 = nI G) (hG : G ≤ 8) (ha : ¬ ∃ a, a < G ∧ x = nI a) : f_X11_checkFisher M b x = some (.inl 2, M) := sorry

theorem bx_s {α β : Type} {o : Option ((Nat ⊕ α) × gMem)} {h : Nat → gMem → Option β} {k : α → gMem → Option β} {x : α} {M : gMem} (e : o = some (.inr x, M)) : bx o h k = k x M := sorry

theorem bx_t {α β : Type} {o : Option ((Nat ⊕ α) × gMem)} {h : Nat → gMem → Option β} {k : α → gMem → Option β} {x : Nat} {M : gMem} (e : o = some (.inl x, M)) : bx o h k = h x M := sorry

/-- what is told of a ground -/
def gvA (A : Nat → Nat → Int32) (g c : Nat) : Int32 := if c = 0 then sum5 (A (19 + 2 * g)) 5 else if c < 6 then A (19 + 2 * g) c else A (18 + 2 * g) (c - 6)
theorem c_gv {b o G g c : Nat} {M : gMem} (L : LC o M) (h1 : mT M b = 10) (h2 : mR M b 1 = some o) (h4 : mI M o 2 = nI G) (hG : G ≤ 8) (hg : g < G) (hc : c < 9) : f_X11_ground M b (nI g) (nI c) = some (.inr (gvA (cutF 86 o M) g c), M) := sorry
