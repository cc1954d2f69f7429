/-! ## Pure: a row of numbers that the reference writes to read one; what is asked of fishers -/
def aN (X : gMem) (len : Nat) (vs : Nat → Int32) : Nat → gMem
  | 0 => nW X 20 len
  | j + 1 => wI (aN X len vs j) (mN X) j (vs j)
theorem aN_f {X : gMem} {len : Nat} {vs : Nat → Int32} : ∀ j, mT (aN X len vs j) = mT (nW X 20 len) ∧ mL (aN X len vs j) = mL (nW X 20 len) ∧ mR (aN X len vs j) = mR (nW X 20 len) ∧ mN (aN X len vs j) = mN X + 1 ∧ ∀ a, a ≠ mN X → mI (aN X len vs j) a = mI X a
  | 0 => ⟨rfl, rfl, rfl, rfl, fun a h => if_neg h⟩
  | j + 1 => by
    obtain ⟨h1, h2, h3, h4, h5⟩ := aN_f (X := X) (len := len) (vs := vs) j
    exact ⟨h1, h2, h3, h4, fun a h => (funext fun k => wI_o (.inl h)).trans (h5 a h)⟩
theorem aN_N {X : gMem} {len i j N : Nat} {vs : Nat → Int32} (e : N = mN X) : mI (aN X len vs j) N i = if i < j then vs i else 0 := by
  subst e
  induction j with
  | zero => show (if mN X = mN X then (fun _ => (0 : Int32)) else mI X (mN X)) i = _; rw [if_pos rfl, if_neg (by omega)]
  | succ j ih =>
    by_cases h : i = j
    · subst h
      show mI (wI _ (mN X) i (vs i)) (mN X) i = _
      rw [wI_e, if_pos (by omega)]
    · show mI (wI _ (mN X) j (vs j)) (mN X) i = _
      rw [wI_o (.inr h), ih]
      by_cases h2 : i < j
      · rw [if_pos h2, if_pos (by omega)]
      · rw [if_neg h2, if_neg (by omega)]
theorem aN_o {X : gMem} {len a : Nat} {vs : Nat → Int32} (j : Nat) (h : a < mN X) : mT (aN X len vs j) a = mT X a ∧ mL (aN X len vs j) a = mL X a ∧ mR (aN X len vs j) a = mR X a ∧ mI (aN X len vs j) a = mI X a := by
  obtain ⟨h1, h2, h3, h4, h5⟩ := aN_f (X := X) (len := len) (vs := vs) j
  refine ⟨?_, ?_, ?_, h5 a (by omega)⟩
  · rw [h1]; exact if_neg (by omega)
  · rw [h2]; exact if_neg (by omega)
  · rw [h3]; exact if_neg (by omega)
theorem ar_s {α : Type} {X : gMem} {len j i : Nat} {vs : Nat → Int32} {v : Int32} {k : gMem → Option α} (hi : i = j) (h : v = vs j) : lw (wI (aN X len vs j) (mN X) i v) k = k (aN X len vs (j + 1)) := by
  subst h; subst hi; rfl
theorem LS_aN {m t a len j : Nat} {X : gMem} {vs : Nat → Int32} (L : LSt m t a X) (hm : m < mN X) (ha : a + 17 ≤ mN X) (ht : t + 17 ≤ mN X) : LSt m t a (aN X len vs j) :=
  LS_e L (fun b hb => ⟨(aN_o j hb).1, (aN_o j hb).2.1, (aN_o j hb).2.2.1⟩) hm ha ht
theorem STv_aN {Z : Nat → Nat} {b m o o' t n kb len j : Nat} {T : Nat → Nat} {X : gMem} {vs : Nat → Int32} (S : STv Z b m o o' t n kb T X) : STv Z b m o o' t n kb T (aN X len vs j) := by
  have hN : mN (aN X len vs j) = mN X + 1 := (aN_f j).2.2.2.1
  have hm : m < mN X := by have := S.2.2.1.2.2.2; omega
  exact STv_fr S (fun a h => ⟨(aN_o j h).1, (aN_o j h).2.1, (aN_o j h).2.2.1, fun _ => (aN_o j h).2.2.2⟩) (fun k _ => by rw [(aN_o j hm).2.2.2]) (by omega)
def fvA (A : Nat → Nat → Int32) (f c : Nat) : Int32 := if c = 0 then A (34 + 2 * f) 1 else if c = 1 then A (34 + 2 * f) 0 else if c < 8 then A (34 + 2 * f) c else if c = 8 then A (34 + 2 * f) 9 else A (34 + 2 * f) 8
theorem c_fv {b o G g c : Nat} {M : gMem} (L : LC o M) (h1 : mT M b = 10) (h2 : mR M b 1 = some o) (h4 : mI M o 3 = nI G) (hG : G ≤ 8) (hg : g < G) (hc : c < 10) (c9 : cutF 86 o M (34 + 2 * g) 9 = 0 ∨ cutF 86 o M (34 + 2 * g) 9 = 1) : f_X11_fisher M b (nI g) (nI c) = some (.inr (fvA (cutF 86 o M) g c), M) := by
  have hg8 : g < 8 := by omega
  have h3 : mT M o = 7 := (L 0 (by omega)).1
  have cA : sC o (cutF 86 o M) M = M := sC_cut
  have ic : inb (nI g) 8 := (inbN (by omega)).mpr hg8
  have cT1' : mT M (o + 2) = 24 := (L 2 (by omega)).1
  have cL1' : mL M (o + 2) = 8 := (L 2 (by omega)).2.1
  have cR1 : mR M o 7 = some (o + 2) := by rw [← cA]; exact cR0_7 L
  have cRg' : mR M (o + 2) g = some (o + (34 + 2 * g)) := by rw [← cA]; exact cRrf L hg8
  have cTg' : mT M (o + (34 + 2 * g)) = 1 := by rw [← cA]; exact cTf L hg8
  have Ag : mI M (o + (34 + 2 * g)) = cutF 86 o M (34 + 2 * g) := (cutF_e (by omega)).symm
  unfold f_X11_fisher b_X11_fisher_0
  rw [ck_t h1, bx_s (c_ckF_in h1 h2 h3 h4 hG hg), ck_t h1, dr_s h2, ck_t h3, dr_s cR1, ck_t cT1', cL1', ck_t ic]
  obtain rfl | rfl | rfl | rfl | rfl | rfl | rfl | rfl | rfl | rfl : c = 0 ∨ c = 1 ∨ c = 2 ∨ c = 3 ∨ c = 4 ∨ c = 5 ∨ c = 6 ∨ c = 7 ∨ c = 8 ∨ c = 9 := by omega
  · rw [if_pos (by decide), nI_clamp (by omega), cRg', dr_S, ck_t cTg', Ag]
    rfl
  · rw [if_neg (by decide), if_pos (by decide), nI_clamp (by omega), cRg', dr_S, ck_t cTg', Ag]
    rfl
  · rw [if_neg (by decide), if_neg (by decide), if_pos (by decide), nI_clamp (by omega), cRg', dr_S, ck_t cTg', Ag]
    rfl
  · rw [if_neg (by decide), if_neg (by decide), if_neg (by decide), if_pos (by decide), nI_clamp (by omega), cRg', dr_S, ck_t cTg', Ag]
    rfl
  · rw [if_neg (by decide), if_neg (by decide), if_neg (by decide), if_neg (by decide), if_pos (by decide), nI_clamp (by omega), cRg', dr_S, ck_t cTg', Ag]
    rfl
  · rw [if_neg (by decide), if_neg (by decide), if_neg (by decide), if_neg (by decide), if_neg (by decide), if_pos (by decide), nI_clamp (by omega), cRg', dr_S, ck_t cTg', Ag]
    rfl
  · rw [if_neg (by decide), if_neg (by decide), if_neg (by decide), if_neg (by decide), if_neg (by decide), if_neg (by decide), if_pos (by decide), nI_clamp (by omega), cRg', dr_S, ck_t cTg', Ag]
    rfl
  · rw [if_neg (by decide), if_neg (by decide), if_neg (by decide), if_neg (by decide), if_neg (by decide), if_neg (by decide), if_neg (by decide), if_pos (by decide), nI_clamp (by omega), cRg', dr_S, ck_t cTg', Ag]
    rfl
  · rw [if_neg (by decide), if_neg (by decide), if_neg (by decide), if_neg (by decide), if_neg (by decide), if_neg (by decide), if_neg (by decide), if_neg (by decide), if_pos (by decide), nI_clamp (by omega), cRg', dr_S, ck_t cTg', Ag]
    unfold b_X11_fisher_124
    rcases c9 with z | z
    · rw [if_pos z]; show _ = some (Sum.inr (cutF 86 o M (34 + 2 * g) 9), M); rw [z]
    · rw [if_neg (by rw [z]; decide)]; show _ = some (Sum.inr (cutF 86 o M (34 + 2 * g) 9), M); rw [z]
  · rw [if_neg (by decide), if_neg (by decide), if_neg (by decide), if_neg (by decide), if_neg (by decide), if_neg (by decide), if_neg (by decide), if_neg (by decide), if_neg (by decide), if_pos (by decide), nI_clamp (by omega), cRg', dr_S, ck_t cTg', Ag]
    rfl
