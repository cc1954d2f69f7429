/-! ## Pure: the same, step by step: a builder of at most c bytes above N, and what is said of what follows -/
def SBc (N a c : Nat) (L : List Nat) (M : gMem) : Prop := SBb N a L M ∧ N ≤ mN M ∧ L.length ≤ c
theorem dgL_3 (x : Nat) : (dgL x).length ≤ 3 := by
  rw [dgL_l]
  split
  · omega
  · split <;> omega
theorem sLs_23 {j : Nat} (h : j < 94) : (sLs j).length ≤ 23 := by
  obtain ⟨f1, f2, -⟩ := sLs_f j h
  omega
section STP
variable {Z : Nat → Nat} {N a c : Nat} {L : List Nat} {M : gMem} {α β : Type} {P : Option β → Prop}
theorem p_ck {p : Prop} [Decidable p] {x : Option β} (h : p) (k : P x) : P (ck p x) := by rw [ck_t h]; exact k
theorem p_lw {x : gMem} {k : gMem → Option β} (h : P (k x)) : P (lw x k) := h
theorem p_dr {s : Nat} {k : Nat → Option β} (h : P (k s)) : P (dr (some s) k) := h
theorem p_dc (S : SBc N a c L M) {k : Nat → Option β} (h : P (k a)) : P (dr (some a) fun q => ck (mT M q = 13) (k q)) := by
  rw [dr_S, ck_t (SBb_t S.1).1]; exact h
theorem p_new {K : Unit → gMem → Option β} (h : ∀ M', SBc (mN M) (mN M) 0 [] M' → FRb (mN M) M M' → P (K () M')) : P (lw (nW M 13 0) fun M1 => bd (f_J4_init_da8c8 Z M1 (mN M)) K) := by
  obtain ⟨M', e, S, F⟩ := b_new (Z := Z) (M := M) K
  rw [e]; exact h M' ⟨S, F.2, Nat.le_refl _⟩ F
theorem p_app {j : Nat} {K : Option Nat → gMem → Option β} (S : SBc N a c L M) (hj : j < 94) (hc : c + 23 ≤ 1199) (h : ∀ M', SBc N a (c + 23) (L ++ sLs j) M' → FRb N M M' → P (K (some a) M')) : P (bd (f_J4_append_15ec4_S Z M a j) K) := by
  have h23 := sLs_23 hj
  obtain ⟨S, hN, hl⟩ := S
  obtain ⟨M', e, S', F, hN'⟩ := b_app (Z := Z) S hN hj (by omega) K
  rw [e]; exact h M' ⟨S', hN', by rw [List.length_append]; omega⟩ F
theorem p_int {x : Nat} {K : Option Nat → gMem → Option β} (S : SBc N a c L M) (hx : x < 1000) (hc : c + 3 ≤ 1199) (h : ∀ M', SBc N a (c + 3) (L ++ dgL x) M' → FRb N M M' → P (K (some a) M')) : P (bd (f_J4_append_bf812 Z M a (nI x)) K) := by
  have h3 := dgL_3 x
  obtain ⟨S, hN, hl⟩ := S
  obtain ⟨M', e, S', F, hN'⟩ := b_int (Z := Z) S hN hx (by omega) K
  rw [e]; exact h M' ⟨S', hN', by rw [List.length_append]; omega⟩ F
theorem p_apr {s w q : Nat} {Q : List Nat} {K : Option Nat → gMem → Option β} (S : SBc N a c L M) (H : STR s w Q M) (hw : w < N) (hq : Q.length ≤ q) (hc : c + q ≤ 1199) (h : ∀ M', SBc N a (c + q) (L ++ Q) M' → FRb N M M' → P (K (some a) M')) : P (bd (f_J4_append_15ec4_r Z M a (some s)) K) := by
  obtain ⟨S, hN, hl⟩ := S
  obtain ⟨M', e, S', F, hN'⟩ := b_apr (Z := Z) S hN H hw (by omega) K
  rw [e]; exact h M' ⟨S', hN', by rw [List.length_append]; omega⟩ F
theorem p_str {K : Option Nat → gMem → Option β} (S : SBc N a c L M) (h : ∀ M', STR (mN M) (mN M + 1) L M' → FRb N M M' → mN M' = mN M + 2 → P (K (some (mN M)) M')) : P (bd (f_J4_toString_0e30d Z M a) K) := by
  obtain ⟨M', e, S', F, hN'⟩ := b_str (Z := Z) S.1 S.2.1 K
  rw [e]; exact h M' S' F hN'
theorem p_if_t {p : Prop} [Decidable p] {x y : Option β} (h : p) (k : P x) : P (if p then x else y) := by rw [if_pos h]; exact k
theorem p_if_f {p : Prop} [Decidable p] {x y : Option β} (h : ¬ p) (k : P y) : P (if p then x else y) := by rw [if_neg h]; exact k
end STP
/-- a String comes out, above N -/
def QSt (N : Nat) (M : gMem) (L : List Nat) (x : Option (Option Nat × gMem)) : Prop := ∃ s M', x = some (some s, M') ∧ STR s (s + 1) L M' ∧ N ≤ s ∧ FRb N M M'
/-- a row of ints at w, below N -/
theorem row_b {N w : Nat} {M M' : gMem} (h : FRb N M M') (hw : w < N) : mT M' w = mT M w ∧ mL M' w = mL M w ∧ mI M' w = mI M w ∧ mR M' w = mR M w := by
  obtain ⟨x1, x2, -, x4, x5⟩ := h.1 w hw
  exact ⟨x1, x2, x4, x5⟩
theorem p_inte {Z : Nat → Nat} {N a c x : Nat} {y : Int32} {L : List Nat} {M : gMem} {β : Type} {P : Option β → Prop} {K : Option Nat → gMem → Option β} (S : SBc N a c L M) (hy : y = nI x) (hx : x < 1000) (hc : c + 3 ≤ 1199) (h : ∀ M', SBc N a (c + 3) (L ++ dgL x) M' → FRb N M M' → P (K (some a) M')) : P (bd (f_J4_append_bf812 Z M a y) K) := by
  rw [hy]; exact p_int S hx hc h
/-- a remainder of numbers -/
theorem rem_n {a b : Nat} {x y : Int32} (hx : x = nI a) (hy : y = nI b) (ha : a < 2 ^ 31) (hb : b < 2 ^ 31) : x - x / y * y = nI (a % b) := by
  rw [hx, hy]; exact nI_rem ha hb
