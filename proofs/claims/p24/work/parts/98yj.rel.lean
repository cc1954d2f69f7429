/-! ## Pure: the relation of both objects -/
def cutF (n a : Nat) (M : gMem) : Nat → Nat → Int32 := fun d => if d < n then mI M (a + d) else fun _ => 0
theorem cutF_e {n a d : Nat} {M : gMem} (h : d < n) : cutF n a M d = mI M (a + d) := sorry

theorem sC_cut {o : Nat} {M : gMem} : sC o (cutF 86 o M) M = M := sorry

theorem bC_cut {n a : Nat} {M : gMem} : bC n a (cutF n a M) M = M := sorry

theorem PK_cg {A A' : Nat → Nat → Int32} (h : ∀ d, 1 ≤ d → d < 86 → A' d = A d) (h0 : ∀ k, 2 ≤ k → A' 0 k = A 0 k) {np : Nat} (K : PK A np) : PK A' np := sorry

theorem GO_cg {A A' : Nat → Nat → Int32} (h : ∀ d, 1 ≤ d → d < 86 → A' d = A d) (h0 : ∀ k, 2 ≤ k → A' 0 k = A 0 k) {ng : Nat} (K : GO A ng) : GO A' ng := sorry

theorem WS_cg {A A' : Nat → Nat → Int32} (h : ∀ d, 1 ≤ d → d < 86 → A' d = A d) (h0 : ∀ k, 2 ≤ k → A' 0 k = A 0 k) {F G np ng : Nat} (W : WS A F G np ng) : WS A' F G np ng := sorry

theorem WD_cg {A A' : Nat → Nat → Int32} (h : ∀ d, 1 ≤ d → d < 86 → A' d = A d) {F G : Nat} (hF : F ≤ 8) (hG : G ≤ 8) (W : WD A F G) : WD A' F G := sorry

theorem SR_cg {pg : Nat → Nat} {len : Nat} {A A' : Nat → Nat → Int32} {code : Nat → Int32} {F G : Nat} {x y u v : Int32} (h : A' 7 = A 7) (S : SR pg len A code F G x y u v) : SR pg len A' code F G x y u v := sorry

theorem TR_cg {A A' : Nat → Nat → Int32} (h : ∀ d, 1 ≤ d → d < 86 → A' d = A d) {pg : Nat → Nat} {len t F G np ng : Nat} {M M' : gMem} (hF : F ≤ 8) (hG : G ≤ 8) (hp6 : np ≤ 6) (hn : ng ≤ 24) (hM : ∀ j, j < 17 → mI M' (t + j) = mI M (t + j)) (T : TR pg len A M t F G np ng) : TR pg len A' M' t F G np ng := sorry

theorem RS_cg {A A' : Nat → Nat → Int32} (h : ∀ d, 1 ≤ d → d < 86 → A' d = A d) (h0 : A' 0 = A 0) {st st' : Nat → Nat → Int32} {F G np : Nat} (hF : F ≤ 8) (hG : G ≤ 8) (hp6 : np ≤ 6) (hs : ∀ d, d < 17 → st' d = st d) (R : RS A st F G np) : RS A' st' F G np := sorry

theorem PG_cg {A A' : Nat → Nat → Int32} (h : ∀ d, 1 ≤ d → d < 86 → A' d = A d) {Z pg : Nat → Nat} {o len : Nat} {M M' : gMem} (hR : mR M' (o + 6) = mR M (o + 6)) (P : PG Z pg o len M A) : PG Z pg o len M' A' := sorry

theorem NEWA_cg {A A' : Nat → Nat → Int32} (h : ∀ d, 1 ≤ d → d < 86 → A' d = A d) {Y Y' : gMem} {t F G np : Nat} (hF : F ≤ 8) (hG : G ≤ 8) (hp6 : np ≤ 6) (hY : mI Y' (t + 2) = mI Y (t + 2)) (N : NEWA A Y t F G np) : NEWA A' Y' t F G np := sorry

/-- what else holds of the Shore: stores below a bound, what was taken adds up -/
def SVa (kb : Nat) (A : Nat → Nat → Int32) (F G : Nat) : Prop := (∀ f, f < F → ∃ a, a ≤ kb ∧ A (34 + 2 * f) 4 = nI a) ∧ (∀ g, g < G → A (18 + 2 * g) 2 = sumN (fun f => A (35 + 2 * f) g) F) ∧ (∀ f, f < F → A (34 + 2 * f) 8 = sumN (fun g => A (35 + 2 * f) g) G) ∧ ∀ f, f < F → ∃ m, 1 ≤ m ∧ m ≤ 6 ∧ A (34 + 2 * f) 0 = nI m
theorem sumN_c {f h : Nat → Int32} : ∀ n, (∀ i, i < n → f i = h i) → sumN f n = sumN h n := sorry

theorem sumN_z {f : Nat → Int32} : ∀ n, (∀ i, i < n → f i = 0) → sumN f n = 0 := sorry

theorem SVa_cg {A A' : Nat → Nat → Int32} {kb F G : Nat} (h : ∀ d, 18 ≤ d → d < 50 → A' d = A d) (hF : F ≤ 8) (hG : G ≤ 8) (S : SVa kb A F G) : SVa kb A' F G := sorry

theorem SVa_new {A : Nat → Nat → Int32} {Y : gMem} {kb t F G np : Nat} (hF : F ≤ 8) (hG : G ≤ 8) (N : NEWA A Y t F G np) (D : WD A F G) : SVa kb A F G := sorry

/-- what both have in common -/
def RELv (Z : Nat → Nat) (kb o m t : Nat) (M : gMem) : Prop := ∃ pg len F G np nO, len ≤ 400 ∧ PG Z pg o len M (cutF 86 o M) ∧ WS (cutF 86 o M) F G np nO ∧ WD (cutF 86 o M) F G ∧ TR pg len (cutF 86 o M) M t F G np nO ∧ RS (cutF 86 o M) (cutF 17 (m + 24) M) F G np ∧ SVa kb (cutF 86 o M) F G
theorem REL_fr {Z : Nat → Nat} {kb o m t : Nat} {M M' : gMem} (R : RELv Z kb o m t M) (h1 : ∀ d, d < 86 → mI M' (o + d) = mI M (o + d)) (h2 : mR M' (o + 6) = mR M (o + 6)) (h3 : ∀ j, j < 17 → mI M' (t + j) = mI M (t + j)) (h4 : ∀ j, j < 17 → mI M' (m + 24 + j) = mI M (m + 24 + j)) : RELv Z kb o m t M' := sorry

/-- a new shore and a new state -/
theorem new_RS {A st : Nat → Nat → Int32} {Y : gMem} {pg : Nat → Nat} {len t F G np nO : Nat} (hF : F ≤ 8) (hG : G ≤ 8) (hp6 : np ≤ 6) (N : NEWA A Y t F G np) (T : TR pg len A Y t F G np nO) (h0 : st 0 0 = A 0 0 ∧ st 0 1 = A 0 1) (h1 : ∀ k, k < 40 → st 1 k = mI Y (t + 2) k) (h4 : ∀ k, k < 8 → st 4 k = mI Y (t + 3) k) (hz : ∀ j k, j < 9 → k < lenS (bgR j) → st (bgR j) k = 0) (h7 : ∀ k, k < 8 → st 7 k = -1) : RS A st F G np := sorry
