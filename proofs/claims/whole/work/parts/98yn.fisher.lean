/-! ## Pure: a row of numbers that the reference writes to read one; what is asked of fishers -/
def aN (X : gMem) (len : Nat) (vs : Nat → Int32) : Nat → gMem
  | 0 => nW X 20 len
  | j + 1 => wI (aN X len vs j) (mN X) j (vs j)
theorem aN_f {X : gMem} {len : Nat} {vs : Nat → Int32} : ∀ j, mT (aN X len vs j) = mT (nW X 20 len) ∧ mL (aN X len vs j) = mL (nW X 20 len) ∧ mR (aN X len vs j) = mR (nW X 20 len) ∧ mN (aN X len vs j) = mN X + 1 ∧ ∀ a, a ≠ mN X → mI (aN X len vs j) a = mI X a
  | 0 => ⟨rfl, rfl, rfl, rfl, fun a h => if_neg h⟩
  | j + 1 => by
    obtain ⟨h1, h2, h3, h4, h5⟩ := aN_f (X := X) (len := len) (vs := vs) j
    exact ⟨h1, h2, h3, h4, fun a h => (funext fun k => wI_o (.inl h)).trans (h5 a h)⟩
theorem aN_N {X : gMem} {len i j N : Nat} {vs : Nat → Int32} (e : N = mN X) : mI (aN X len vs j) N i = if i < j then vs i else 0 := by
  subst e
  induction j with
  | zero => show (if mN X = mN X then (fun _ => (0 : Int32)) else mI X (mN X)) i = _; rw [if_pos rfl, if_neg (by omega)]
  | succ j ih =>
    by_cases h : i = j
    · subst h
      show mI (wI _ (mN X) i (vs i)) (mN X) i = _
      rw [wI_e, if_pos (by omega)]
    · show mI (wI _ (mN X) j (vs j)) (mN X) i = _
      rw [wI_o (.inr h), ih]
      by_cases h2 : i < j
      · rw [if_pos h2, if_pos (by omega)]
      · rw [if_neg h2, if_neg (by omega)]
theorem aN_o {X : gMem} {len a : Nat} {vs : Nat → Int32} (j : Nat) (h : a < mN X) : mT (aN X len vs j) a = mT X a ∧ mL (aN X len vs j) a = mL X a ∧ mR (aN X len vs j) a = mR X a ∧ mI (aN X len vs j) a = mI X a := by
  obtain ⟨h1, h2, h3, h4, h5⟩ := aN_f (X := X) (len := len) (vs := vs) j
  refine ⟨?_, ?_, ?_, h5 a (by omega)⟩
  · rw [h1]; exact if_neg (by omega)
  · rw [h2]; exact if_neg (by omega)
  · rw [h3]; exact if_neg (by omega)
theorem ar_s {α : Type} {X : gMem} {len j i : Nat} {vs : Nat → Int32} {v : Int32} {k : gMem → Option α} (hi : i = j) (h : v = vs j) : lw (wI (aN X len vs j) (mN X) i v) k = k (aN X len vs (j + 1)) := by
  subst h; subst hi; rfl
theorem LS_aN {m t a len j : Nat} {X : gMem} {vs : Nat → Int32} (L : LSt m t a X) (hm : m < mN X) (ha : a + 17 ≤ mN X) (ht : t + 17 ≤ mN X) : LSt m t a (aN X len vs j) :=
  LS_e L (fun b hb => ⟨(aN_o j hb).1, (aN_o j hb).2.1, (aN_o j hb).2.2.1⟩) hm ha ht
theorem STv_aN {Z : Nat → Nat} {b m o o' t n kb len j : Nat} {T : Nat → Nat} {X : gMem} {vs : Nat → Int32} (S : STv Z b m o o' t n kb T X) : STv Z b m o o' t n kb T (aN X len vs j) := by
  have hN : mN (aN X len vs j) = mN X + 1 := (aN_f j).2.2.2.1
  have hm : m < mN X := by have := S.2.2.1.2.2.2; omega
  exact STv_fr S (fun a h => ⟨(aN_o j h).1, (aN_o j h).2.1, (aN_o j h).2.2.1, fun _ => (aN_o j h).2.2.2⟩) (fun k _ => by rw [(aN_o j hm).2.2.2]) (by omega)
def fvA (A : Nat → Nat → Int32) (f c : Nat) : Int32 := if c = 0 then A (34 + 2 * f) 1 else if c = 1 then A (34 + 2 * f) 0 else if c < 8 then A (34 + 2 * f) c else if c = 8 then A (34 + 2 * f) 9 else A (34 + 2 * f) 8
theorem c_fv {b o G g c : Nat} {M : gMem} (L : LC o M) (h1 : mT M b = 10) (h2 : mR M b 1 = some o) (h4 : mI M o 3 = nI G) (hG : G ≤ 8) (hg : g < G) (hc : c < 10) (c9 : cutF 86 o M (34 + 2 * g) 9 = 0 ∨ cutF 86 o M (34 + 2 * g) 9 = 1) : f_X11_fisher M b (nI g) (nI c) = some (.inr (fvA (cutF 86 o M) g c), M) := by
  have hg8 : g < 8 := by omega
  have h3 : mT M o = 7 := (L 0 (by omega)).1
  have cA : sC o (cutF 86 o M) M = M := sC_cut
  have ic : inb (nI g) 8 := (inbN (by omega)).mpr hg8
  have cT1' : mT M (o + 2) = 24 := (L 2 (by omega)).1
  have cL1' : mL M (o + 2) = 8 := (L 2 (by omega)).2.1
  have cR1 : mR M o 7 = some (o + 2) := by rw [← cA]; exact cR0_7 L
  have cRg' : mR M (o + 2) g = some (o + (34 + 2 * g)) := by rw [← cA]; exact cRrf L hg8
  have cTg' : mT M (o + (34 + 2 * g)) = 1 := by rw [← cA]; exact cTf L hg8
  have Ag : mI M (o + (34 + 2 * g)) = cutF 86 o M (34 + 2 * g) := (cutF_e (by omega)).symm
  unfold f_X11_fisher b_X11_fisher_0
  rw [ck_t h1, bx_s (c_ckF_in h1 h2 h3 h4 hG hg), ck_t h1, dr_s h2, ck_t h3, dr_s cR1, ck_t cT1', cL1', ck_t ic]
  obtain rfl | rfl | rfl | rfl | rfl | rfl | rfl | rfl | rfl | rfl : c = 0 ∨ c = 1 ∨ c = 2 ∨ c = 3 ∨ c = 4 ∨ c = 5 ∨ c = 6 ∨ c = 7 ∨ c = 8 ∨ c = 9 := by omega
  · rw [if_pos (by decide), nI_clamp (by omega), cRg', dr_S, ck_t cTg', Ag]
    rfl
  · rw [if_neg (by decide), if_pos (by decide), nI_clamp (by omega), cRg', dr_S, ck_t cTg', Ag]
    rfl
  · rw [if_neg (by decide), if_neg (by decide), if_pos (by decide), nI_clamp (by omega), cRg', dr_S, ck_t cTg', Ag]
    rfl
  · rw [if_neg (by decide), if_neg (by decide), if_neg (by decide), if_pos (by decide), nI_clamp (by omega), cRg', dr_S, ck_t cTg', Ag]
    rfl
  · rw [if_neg (by decide), if_neg (by decide), if_neg (by decide), if_neg (by decide), if_pos (by decide), nI_clamp (by omega), cRg', dr_S, ck_t cTg', Ag]
    rfl
  · rw [if_neg (by decide), if_neg (by decide), if_neg (by decide), if_neg (by decide), if_neg (by decide), if_pos (by decide), nI_clamp (by omega), cRg', dr_S, ck_t cTg', Ag]
    rfl
  · rw [if_neg (by decide), if_neg (by decide), if_neg (by decide), if_neg (by decide), if_neg (by decide), if_neg (by decide), if_pos (by decide), nI_clamp (by omega), cRg', dr_S, ck_t cTg', Ag]
    rfl
  · rw [if_neg (by decide), if_neg (by decide), if_neg (by decide), if_neg (by decide), if_neg (by decide), if_neg (by decide), if_neg (by decide), if_pos (by decide), nI_clamp (by omega), cRg', dr_S, ck_t cTg', Ag]
    rfl
  · rw [if_neg (by decide), if_neg (by decide), if_neg (by decide), if_neg (by decide), if_neg (by decide), if_neg (by decide), if_neg (by decide), if_neg (by decide), if_pos (by decide), nI_clamp (by omega), cRg', dr_S, ck_t cTg', Ag]
    unfold b_X11_fisher_124
    rcases c9 with z | z
    · rw [if_pos z]; show _ = some (Sum.inr (cutF 86 o M (34 + 2 * g) 9), M); rw [z]
    · rw [if_neg (by rw [z]; decide)]; show _ = some (Sum.inr (cutF 86 o M (34 + 2 * g) 9), M); rw [z]
  · rw [if_neg (by decide), if_neg (by decide), if_neg (by decide), if_neg (by decide), if_neg (by decide), if_neg (by decide), if_neg (by decide), if_neg (by decide), if_neg (by decide), if_pos (by decide), nI_clamp (by omega), cRg', dr_S, ck_t cTg', Ag]
    rfl
theorem m_fv {m t F G np g c : Nat} {A st : Nat → Nat → Int32} {X : gMem} (LA : LSt m t (m + 24) X) (h13 : mR X m 13 = some (m + 24)) (eS : bC 17 (m + 24) st X = X) (hm : m + 41 ≤ mN X) (ht : t + 17 ≤ mN X) (x0 : mI X t 0 = nI G) (hF : F ≤ 8) (hG : G ≤ 8) (hg : g < F) (tg : mI X (t + 3) g = A (34 + 2 * g) 0 ∧ mI X (t + 4) g = A (34 + 2 * g) 2 ∧ mI X (t + 5) g = A (34 + 2 * g) 3) (R : RS A st F G np) (tk0 : A (34 + 2 * g) 8 = sumN (fun i => A (35 + 2 * g) i) G) (hc : c < 10) : ∃ vs, f_X14_fisherTold X m (nI g) (nI c) = some (fvA A g c, aN X 10 vs 10) := by
  obtain ⟨vs, hvs⟩ : ∃ vs : Nat → Int32, vs = fun i => fvA A g i := ⟨_, rfl⟩
  refine ⟨vs, ?_⟩
  have sI' : ∀ d k, d < 17 → mI X (m + 24 + d) k = st d k := fun d k hd => by rw [← eS]; exact bC_I hd
  have e1 : ∀ j, mT (aN X 10 vs j) m = 13 := fun j => by rw [(aN_o j (by omega)).1]; exact LA.1.2.2.1
  have e2 : ∀ j, mR (aN X 10 vs j) m 11 = some t := fun j => by rw [(aN_o j (by omega)).2.2.1]; exact LA.1.2.2.2.1
  have e3 : ∀ j, mR (aN X 10 vs j) m 13 = some (m + 24) := fun j => by rw [(aN_o j (by omega)).2.2.1]; exact h13
  have e4 : ∀ j, mT (aN X 10 vs j) t = 12 := fun j => by rw [(aN_o j (by omega)).1]; exact LA.1.2.2.2.2
  have e5 : ∀ j, mT (aN X 10 vs j) (m + 24) = 11 := fun j => by rw [(aN_o j (by omega)).1]; exact LA.1.1
  have hL : ∀ j, LSt m t (m + 24) (aN X 10 vs j) := fun j => LS_aN LA (by omega) (by omega) (by omega)
  have hS : ∀ j r, 1 ≤ r → r < 17 → mT (aN X 10 vs j) (m + 24 + r) = 20 ∧ mL (aN X 10 vs j) (m + 24 + r) = lenS r ∧ mR (aN X 10 vs j) (m + 24) (r + 1) = some (m + 24 + r) := fun j r r1 r2 => (hL j).2.2.1 r r1 r2
  have hD : ∀ j r, 1 ≤ r → r < 17 → mT (aN X 10 vs j) (t + r) = 20 ∧ mL (aN X 10 vs j) (t + r) = lenD r := fun j r r1 r2 => (hL j).2.2.2.1 r r1 r2
  have hR : ∀ j k, k < 25 → 0 < tdR k → mR (aN X 10 vs j) t k = some (t + tdR k) := fun j k k1 k2 => (hL j).2.2.2.2 k k1 k2
  have tN : ∀ j, mT (aN X 10 vs j) (mN X) = 20 := fun j => by rw [(aN_f j).1]; exact if_pos rfl
  have lN : ∀ j, mL (aN X 10 vs j) (mN X) = 10 := fun j => by rw [(aN_f j).2.1]; exact if_pos rfl
  have rI : ∀ j a k, a < mN X → mI (aN X 10 vs j) a k = mI X a k := fun j a k h => by rw [(aN_o j h).2.2.2]
  obtain ⟨m1, m2, m3, m4, m5⟩ := R.1.2.2.2 g hg
  have m6 := R.2.2.2.2.1 g hg
  have z0 : nW X 20 ((10 : Int32)).toNatClampNeg = aN X 10 vs 0 := rfl
  have w0 : mI (aN X 10 vs 0) (m + 24 + 4) g = vs 0 := by rw [rI _ _ _ (by omega), sI' _ _ (by omega), m1, hvs]; rfl
  have w1 : mI (aN X 10 vs 1) (t + tdR 5) g = vs 1 := by rw [show t + tdR 5 = t + 3 from rfl, rI _ _ _ (show t + 3 < mN X by omega), tg.1, hvs]; rfl
  have w2 : mI (aN X 10 vs 2) (t + tdR 6) g = vs 2 := by rw [show t + tdR 6 = t + 4 from rfl, rI _ _ _ (show t + 4 < mN X by omega), tg.2.1, hvs]; rfl
  have w3 : mI (aN X 10 vs 3) (t + tdR 7) g = vs 3 := by rw [show t + tdR 7 = t + 5 from rfl, rI _ _ _ (show t + 5 < mN X by omega), tg.2.2, hvs]; rfl
  have w4 : mI (aN X 10 vs 4) (m + 24 + 5) g = vs 4 := by rw [rI _ _ _ (by omega), sI' _ _ (by omega), m2, hvs]; rfl
  have w5 : mI (aN X 10 vs 5) (m + 24 + 6) g = vs 5 := by rw [rI _ _ _ (by omega), sI' _ _ (by omega), m3, hvs]; rfl
  have w6 : mI (aN X 10 vs 6) (m + 24 + 7) g = vs 6 := by rw [rI _ _ _ (by omega), sI' _ _ (by omega), m6.1, hvs]; rfl
  have w7 : mI (aN X 10 vs 7) (m + 24 + 8) g = vs 7 := by rw [rI _ _ _ (by omega), sI' _ _ (by omega), m6.2, hvs]; rfl
  have w8 : mI (aN X 10 vs 8) (m + 24 + 9) g = vs 8 := by rw [rI _ _ _ (by omega), sI' _ _ (by omega), m4, hvs]; rfl
  have w9 : sumN (fun i => st 3 (8 * i + g)) G = vs 9 := by
    rw [hvs]
    show _ = A (34 + 2 * g) 8
    rw [tk0]
    exact sumN_c G fun i hi => R.2.2.2.1 i g hi hg
  have tk : f_X14_takenBy (aN X 10 vs 9) m (nI g) = some (sumN (fun i => st 3 (8 * i + g)) G, aN X 10 vs 9) := r_takenBy (hL 9) (e3 9) (fun k => by rw [rI _ _ _ (by omega), sI' _ _ (by omega)]) (by rw [rI _ _ _ (by omega)]; exact x0) hG (by omega)
  unfold f_X14_fisherTold b_X14_fisherTold_0
  rw [lw_S, z0]
  rw [ck_t (e1 0), dr_s (e3 0), ck_t (e5 0), dr_s (hS 0 4 (by omega) (by omega)).2.2, ck_t (hS 0 4 (by omega) (by omega)).1, (hS 0 4 (by omega) (by omega)).2.1, ck_t (show inb (nI g) (lenS 4) from (inbN (by omega)).mpr (show g < 8 by omega)), ck_t (tN 0), lN 0, ck_t (show inb (0 : Int32) 10 by decide), ar_s (j := 0) (by decide) (by rw [nI_clamp (by omega)]; exact w0)]
  rw [dr_s (e2 1), ck_t (e4 1), dr_s (hR 1 5 (by omega) (by decide)), ck_t (hD 1 (tdR 5) (by decide) (by decide)).1, (hD 1 (tdR 5) (by decide) (by decide)).2, ck_t (show inb (nI g) (lenD (tdR 5)) from (inbN (by omega)).mpr (show g < 8 by omega)), lN 1, ck_t (show inb (1 : Int32) 10 by decide), ar_s (j := 1) (by decide) (by rw [nI_clamp (by omega)]; exact w1)]
  rw [dr_s (e2 2), ck_t (e4 2), dr_s (hR 2 6 (by omega) (by decide)), ck_t (hD 2 (tdR 6) (by decide) (by decide)).1, (hD 2 (tdR 6) (by decide) (by decide)).2, ck_t (show inb (nI g) (lenD (tdR 6)) from (inbN (by omega)).mpr (show g < 8 by omega)), lN 2, ck_t (show inb (2 : Int32) 10 by decide), ar_s (j := 2) (by decide) (by rw [nI_clamp (by omega)]; exact w2)]
  rw [dr_s (e2 3), ck_t (e4 3), dr_s (hR 3 7 (by omega) (by decide)), ck_t (hD 3 (tdR 7) (by decide) (by decide)).1, (hD 3 (tdR 7) (by decide) (by decide)).2, ck_t (show inb (nI g) (lenD (tdR 7)) from (inbN (by omega)).mpr (show g < 8 by omega)), lN 3, ck_t (show inb (3 : Int32) 10 by decide), ar_s (j := 3) (by decide) (by rw [nI_clamp (by omega)]; exact w3)]
  rw [dr_s (e3 4), ck_t (e5 4), dr_s (hS 4 5 (by omega) (by omega)).2.2, ck_t (hS 4 5 (by omega) (by omega)).1, (hS 4 5 (by omega) (by omega)).2.1, ck_t (show inb (nI g) (lenS 5) from (inbN (by omega)).mpr (show g < 8 by omega)), lN 4, ck_t (show inb (4 : Int32) 10 by decide), ar_s (j := 4) (by decide) (by rw [nI_clamp (by omega)]; exact w4)]
  rw [dr_s (e3 5), ck_t (e5 5), dr_s (hS 5 6 (by omega) (by omega)).2.2, ck_t (hS 5 6 (by omega) (by omega)).1, (hS 5 6 (by omega) (by omega)).2.1, ck_t (show inb (nI g) (lenS 6) from (inbN (by omega)).mpr (show g < 8 by omega)), lN 5, ck_t (show inb (5 : Int32) 10 by decide), ar_s (j := 5) (by decide) (by rw [nI_clamp (by omega)]; exact w5)]
  rw [dr_s (e3 6), ck_t (e5 6), dr_s (hS 6 7 (by omega) (by omega)).2.2, ck_t (hS 6 7 (by omega) (by omega)).1, (hS 6 7 (by omega) (by omega)).2.1, ck_t (show inb (nI g) (lenS 7) from (inbN (by omega)).mpr (show g < 8 by omega)), lN 6, ck_t (show inb (6 : Int32) 10 by decide), ar_s (j := 6) (by decide) (by rw [nI_clamp (by omega)]; exact w6)]
  rw [dr_s (e3 7), ck_t (e5 7), dr_s (hS 7 8 (by omega) (by omega)).2.2, ck_t (hS 7 8 (by omega) (by omega)).1, (hS 7 8 (by omega) (by omega)).2.1, ck_t (show inb (nI g) (lenS 8) from (inbN (by omega)).mpr (show g < 8 by omega)), lN 7, ck_t (show inb (7 : Int32) 10 by decide), ar_s (j := 7) (by decide) (by rw [nI_clamp (by omega)]; exact w7)]
  rw [dr_s (e3 8), ck_t (e5 8), dr_s (hS 8 9 (by omega) (by omega)).2.2, ck_t (hS 8 9 (by omega) (by omega)).1, (hS 8 9 (by omega) (by omega)).2.1, ck_t (show inb (nI g) (lenS 9) from (inbN (by omega)).mpr (show g < 8 by omega)), lN 8, ck_t (show inb (8 : Int32) 10 by decide), ar_s (j := 8) (by decide) (by rw [nI_clamp (by omega)]; exact w8)]
  rw [bd_s tk, ck_t (tN 9), lN 9, ck_t (show inb (9 : Int32) 10 by decide), ar_s (j := 9) (by decide) w9, lN 10, ck_t (show inb (nI c) 10 from (inbN (by omega)).mpr hc), nI_clamp (by omega), aN_N rfl, if_pos hc]
  rw [hvs]
