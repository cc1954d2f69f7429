/-! ## Pure: each fisher goes once; a catch is at most 99 -/
theorem drS_all {n : Nat} {x : Int32} (hn : n < 2 ^ 31) : ∀ j, j ≤ n → ∀ v, v < n → (∃ i, i < j ∧ (drS (fun _ _ => 0) n x j).1 9 i = nI v) ∨ ∃ k, k < n - j ∧ (drS (fun _ _ => 0) n x j).1 10 k = nI v := sorry

theorem lt_sur {n v : Nat} {x : Int32} (hn : n < 2 ^ 31) (hv : v < n) : ∃ i, i < n ∧ ltA n x i = v := sorry

/-- what the first j sizes weigh, from 5 down -/
def swN (hh : Nat → Nat) : Nat → Nat
  | 0 => 0
  | j + 1 => swN hh j + hh (5 - j) * (5 - j)
theorem swN_c {hh h2 : Nat → Nat} : ∀ j, (∀ s, 5 - j < s → hh s = h2 s) → swN hh j = swN h2 j := sorry

theorem hlN_w {fk : Nat → Nat} {h w m : Nat} : ∀ j, j ≤ 5 → swN (hlN fk h w m j).1 j = (hlN fk h w m j).2.2.1 := sorry

theorem wgN_le {hh : Nat → Nat} {m : Nat} : wgN hh m 5 ≤ swN hh 5 := sorry

/-- what a fisher has caught is at most 99 -/
def CQ (A : Nat → Nat → Int32) (f : Nat) : Prop := ∃ c, c ≤ 99 ∧ A (34 + 2 * f) 5 = nI c
theorem CQ_sail {A : Nat → Nat → Int32} {f g F G : Nat} (hF : F ≤ 8) (hG : G ≤ 8) (hf : f < F) (hg : g < G) (D : WD A F G) : CQ (sailA A f g) f := sorry

theorem CQ_fleet {pg : Nat → Nat} {len np ng F G : Nat} {lf : Nat → Nat} {A : Nat → Nat → Int32} (W : WS A F G np ng) (D : WD A F G) : ∀ n, (∀ i, i < n → lf i < F) → ∀ i, i < n → CQ (fleetA pg len np ng lf A n) (lf i) := sorry
