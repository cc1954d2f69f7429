/-! ## Pure: a tide of the reference -/
theorem lp_ex {α β : Type} {f : α → Option (α ⊕ β)} (P : Nat → α → Prop) (n : Nat) (h : ∀ j a, j < n → P j a → ∃ a', f a = some (.inl a') ∧ P (j + 1) a') : ∀ d i a, i + d = n → P i a → ∃ a', P n a' ∧ lp f a = lp f a'
  | 0, i, a, hi, ha => by
    have : i = n := by omega
    subst this
    exact ⟨a, ha, rfl⟩
  | d + 1, i, a, hi, ha => by
    obtain ⟨a1, e1, p1⟩ := h i a (by omega) ha
    obtain ⟨a2, p2, e2⟩ := lp_ex P n h d (i + 1) a1 (by omega) p1
    exact ⟨a2, p2, (lp_in e1).trans e2⟩
theorem lp_oI {α β : Type} {f : α → Option (α ⊕ β)} {a : α} {x : Option β} (h : f a = oI x) : lp f a = x := by
  rw [lp_eq, h]
  cases x <;> rfl
/-- a row of catches has what a Shore has -/
def cR (C : Nat → Int32) (S : Nat → Nat → Int32) (F : Nat) : Prop := ∀ f, f < F → C f = S (34 + 2 * f) 5
theorem cR_add {C : Nat → Int32} {S : Nat → Nat → Int32} {F f : Nat} {v : Int32} (h : cR C S F) (hf : f < F) : cR (up1 C f (C f + v)) (add5 S f v) F := by
  intro f' hf'
  by_cases c : f' = f
  · subst c
    rw [up1_e, add5_e, h f' hf']
  · rw [up1_o c, add5_o (by omega), h f' hf']
/-- catches are stored -/
theorem RS_st {A st : Nat → Nat → Int32} {F G np n : Nat} (hF : F ≤ 8) (hn : n < F) (R : RS (stA A n) st F G np) : RS (stA A (n + 1)) (up2 st 5 n (st 5 n + st 6 n)) F G np := by
  obtain ⟨⟨r0, rF, rB, rE⟩, ⟨l1, z1, tk, wt, zz, pp⟩⟩ := R
  have ao : ∀ d k, (d ≠ 34 + 2 * n ∨ k ≠ 4) → stA A (n + 1) d k = stA A n d k := fun d k h => by rw [stA, up2_ne h]
  refine ⟨⟨?_, fun g k hg hk => ?_, fun g hg => ?_, fun f' hf' => ?_⟩, ⟨?_, fun i h1 h2 => ?_, fun g f' hg hf' => ?_, fun f' hf' => ?_, fun f' h1 h2 => ?_, fun p' hp' => ?_⟩⟩
  · rw [up2_ne (by omega), ao _ _ (by omega), r0]
  · rw [up2_ne (by omega), ao _ _ (by omega), rF g k hg hk]
  · rw [up2_ne (by omega), ao _ _ (by omega), rB g hg]
  · obtain ⟨c1, c2, c3, c4, c5⟩ := rE f' hf'
    rw [up2_ne (b := 4) (by omega)]
    rw [up2_ne (b := 6) (by omega), up2_ne (b := 9) (by omega), ao _ 1 (by omega), ao _ 5 (by omega), ao _ 9 (by omega)]
    refine ⟨c1, ?_, c3, c4, c5⟩
    by_cases c : f' = n
    · subst c
      rw [up2_eq, stA, up2_eq, c2, c3, stA_o f' (fun f hf => by omega), stA_o f' (fun f hf => by omega)]
    · rw [up2_ne (by omega), ao _ _ (by omega), c2]
  · rw [up2_ne (by omega), ao _ _ (by omega), l1]
  · rw [up2_ne (by omega), z1 i h1 h2]
  · rw [up2_ne (by omega), ao _ _ (by omega), tk g f' hg hf']
  · rw [up2_ne (by omega), up2_ne (by omega), ao _ _ (by omega), ao _ _ (by omega)]
    exact wt f' hf'
  · rw [up2_ne (by omega), up2_ne (by omega)]
    exact zz f' h1 h2
  · rw [up2_ne (by omega), up2_ne (by omega), up2_ne (by omega), ao _ _ (by omega), ao _ _ (by omega), ao _ _ (by omega)]
    exact pp p' hp'
/-- a ground has grown -/
theorem RS_gr {A st : Nat → Nat → Int32} {F G np n : Nat} {r : Nat → Int32} (hG : G ≤ 8) (hn : n < G) (R : RS (growA A n) st F G np) (h1 : ∀ k, k < 5 → r (5 * n + k) = gro (A (19 + 2 * n)) (k + 1)) (h2 : ∀ i, (i < 5 * n ∨ 5 * n + 5 ≤ i) → r i = st 1 i) : RS (growA A (n + 1)) (up1 st 1 r) F G np := by
  obtain ⟨⟨r0, rF, rB, rE⟩, ⟨l1, z1, tk, wt, zz, pp⟩⟩ := R
  have ao : ∀ d, d ≠ 19 + 2 * n → growA A (n + 1) d = growA A n d := fun d h => by rw [growA, up1_o h]
  have so : ∀ d, d ≠ 1 → up1 st 1 r d = st d := fun d h => up1_o h
  refine ⟨⟨?_, fun g k hg hk => ?_, fun g hg => ?_, fun f' hf' => ?_⟩, ⟨?_, fun i h3 h4 => ?_, fun g f' hg hf' => ?_, fun f' hf' => ?_, fun f' h3 h4 => ?_, fun p' hp' => ?_⟩⟩
  · rw [so 0 (by omega), ao _ (by omega), r0]
  · rw [up1_e]
    by_cases c : g = n
    · subst c
      rw [h1 k hk, growA, up1_e]
    · rw [h2 _ (by omega), ao _ (by omega), rF g k hg hk]
  · rw [so 2 (by omega), ao _ (by omega), rB g hg]
  · rw [so 4 (by omega), so 5 (by omega), so 6 (by omega), so 9 (by omega), ao _ (by omega)]
    exact rE f' hf'
  · rw [so 0 (by omega), ao _ (by omega), l1]
  · rw [up1_e, h2 i (by omega), z1 i h3 h4]
  · rw [so 3 (by omega), ao _ (by omega), tk g f' hg hf']
  · rw [so 7 (by omega), so 8 (by omega), ao _ (by omega)]
    exact wt f' hf'
  · rw [so 5 (by omega), so 9 (by omega)]
    exact zz f' h3 h4
  · rw [so 10 (by omega), so 11 (by omega), so 12 (by omega), ao _ (by omega)]
    exact pp p' hp'
/-- the tide and the number l -/
theorem RS_0 {A st : Nat → Nat → Int32} {F G np : Nat} {k : Nat} {v : Int32} (R : RS A st F G np) : RS (up2 A 0 k v) (up2 st 0 k v) F G np := by
  obtain ⟨⟨r0, rF, rB, rE⟩, ⟨l1, z1, tk, wt, zz, pp⟩⟩ := R
  have ao : ∀ d, d ≠ 0 → up2 A 0 k v d = A d := fun d h => funext fun j => up2_ne (.inl h)
  have so : ∀ d, d ≠ 0 → up2 st 0 k v d = st d := fun d h => funext fun j => up2_ne (.inl h)
  have e : ∀ j, st 0 j = A 0 j → up2 st 0 k v 0 j = up2 A 0 k v 0 j := fun j h => by
    by_cases c : j = k
    · subst c; rw [up2_eq, up2_eq]
    · rw [up2_ne (.inr c), up2_ne (.inr c), h]
  refine ⟨⟨e 0 r0, fun g k hg hk => ?_, fun g hg => ?_, fun f' hf' => ?_⟩, ⟨e 1 l1, fun i h3 h4 => ?_, fun g f' hg hf' => ?_, fun f' hf' => ?_, fun f' h3 h4 => ?_, fun p' hp' => ?_⟩⟩
  · rw [so 1 (by omega), ao _ (by omega)]; exact rF g k hg hk
  · rw [so 2 (by omega), ao _ (by omega)]; exact rB g hg
  · rw [so 4 (by omega), so 5 (by omega), so 6 (by omega), so 9 (by omega), ao _ (by omega)]; exact rE f' hf'
  · rw [so 1 (by omega)]; exact z1 i h3 h4
  · rw [so 3 (by omega), ao _ (by omega)]; exact tk g f' hg hf'
  · rw [so 7 (by omega), so 8 (by omega), ao _ (by omega)]; exact wt f' hf'
  · rw [so 5 (by omega), so 9 (by omega)]; exact zz f' h3 h4
  · rw [so 10 (by omega), so 11 (by omega), so 12 (by omega), ao _ (by omega)]; exact pp p' hp'
/-- no matter what stands in the rows that are of use for a moment alone -/
theorem RS_c {A st st' : Nat → Nat → Int32} {F G np : Nat} (R : RS A st F G np) (h : ∀ d, d < 13 → st' d = st d) : RS A st' F G np := by
  unfold RS RE RR
  rw [h 0 (by omega), h 1 (by omega), h 2 (by omega), h 3 (by omega), h 4 (by omega), h 5 (by omega), h 6 (by omega), h 7 (by omega), h 8 (by omega), h 9 (by omega), h 10 (by omega), h 11 (by omega), h 12 (by omega)]
  exact R
theorem RS_boats {A st : Nat → Nat → Int32} {F G np : Nat} {r : Nat → Int32} (hG : G ≤ 8) (R : RS A st F G np) (h : ∀ k, k < 8 → r k = 0) : RS (boat0 A G) (up1 st 2 r) F G np := by
  obtain ⟨⟨r0, rF, rB, rE⟩, ⟨l1, z1, tk, wt, zz, pp⟩⟩ := R
  have so : ∀ d, d ≠ 2 → up1 st 2 r d = st d := fun d h => up1_o h
  have ao : ∀ n d k, n ≤ 8 → ¬ (18 ≤ d ∧ d < 34 ∧ d % 2 = 0 ∧ k = 1) → boat0 A n d k = A d k := by
    intro n d k
    induction n with
    | zero => exact fun _ _ => rfl
    | succ n ih => intro hn h; rw [boat0, up2_ne (by omega)]; exact ih (by omega) h
  have ab : ∀ n g, n ≤ 8 → g < n → boat0 A n (18 + 2 * g) 1 = 0 := by
    intro n g
    induction n with
    | zero => exact fun _ h => absurd h (Nat.not_lt_zero g)
    | succ n ih =>
      intro hn h
      rw [boat0]
      by_cases c : g = n
      · subst c; exact up2_eq _ _ _ _
      · rw [up2_ne (by omega)]; exact ih (by omega) (by omega)
  refine ⟨⟨?_, fun g k hg hk => ?_, fun g hg => ?_, fun f' hf' => ?_⟩, ⟨?_, fun i h3 h4 => ?_, fun g f' hg hf' => ?_, fun f' hf' => ?_, fun f' h3 h4 => ?_, fun p' hp' => ?_⟩⟩
  · rw [so 0 (by omega), ao G _ _ hG (by omega), r0]
  · rw [so 1 (by omega), ao G _ _ hG (by omega), rF g k hg hk]
  · rw [up1_e, ab G g hG hg, h g (by omega)]
  · rw [so 4 (by omega), so 5 (by omega), so 6 (by omega), so 9 (by omega), ao G _ _ hG (by omega), ao G _ _ hG (by omega), ao G _ _ hG (by omega), ao G _ _ hG (by omega)]
    exact rE f' hf'
  · rw [so 0 (by omega), ao G _ _ hG (by omega), l1]
  · rw [so 1 (by omega), z1 i h3 h4]
  · rw [so 3 (by omega), ao G _ _ hG (by omega), tk g f' hg hf']
  · rw [so 7 (by omega), so 8 (by omega), ao G _ _ hG (by omega), ao G _ _ hG (by omega)]
    exact wt f' hf'
  · rw [so 5 (by omega), so 9 (by omega)]
    exact zz f' h3 h4
  · rw [so 10 (by omega), so 11 (by omega), so 12 (by omega), ao G _ _ hG (by omega), ao G _ _ hG (by omega), ao G _ _ hG (by omega)]
    exact pp p' hp'
