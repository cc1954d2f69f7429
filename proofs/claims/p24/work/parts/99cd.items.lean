/-! ## Pure: a text of items, by kinds -/
/-- an item's word: a sign's text; a name (a letter and a number); a number; 99999 -/
def wdI (k v : Nat) : List Nat := if k = 40 then (v / 1000) :: dgL (v % 1000) else if k = 41 then dgL v else if k = 43 then [57, 57, 57, 57, 57] else sLs k
def kdI (k : Nat) : Nat := if k = 43 then 41 else k
def vlI (k v : Nat) : Nat := if k = 40 then (v / 1000 - 86) * 37 + (v % 1000 + 1) else if k = 43 then 99999 else v
def itI (x : Nat × Nat × List Nat) : List Nat × List Nat := (wdI x.1 x.2.1, x.2.2)
def alI (k : Nat) : Bool := decide (k < 25) || decide (k = 40) || decide (k = 41) || decide (k = 43)
def okI (x : Nat × Nat × List Nat) : Prop := (x.1 < 40 ∨ (x.1 = 40 ∧ (x.2.1 / 1000 = 102 ∨ x.2.1 / 1000 = 103 ∨ x.2.1 / 1000 = 112) ∧ x.2.1 % 1000 < 10) ∨ (x.1 = 41 ∧ x.2.1 < 1000) ∨ x.1 = 43) ∧ (x.2.2 = [] ∨ x.2.2 = [32] ∨ x.2.2 = [10])
/-- what is known of an item's word -/
def wdP (k : Nat) (w : List Nat) : Prop := w ≠ [] ∧ (∀ c ∈ w, c < 128) ∧ isB (w.headD 0) = false ∧ w.headD 0 < 128 ∧
  (alI k = true → isA (w.headD 0) = true ∧ ((itW w = true ∧ (∀ c ∈ w, isA c = true) ∧ w.length ≤ 10) ∨ (itW w = false ∧ itD w = true ∧ (∀ c ∈ w, isD c = true) ∧ w.length ≤ 6))) ∧
  (alI k = false → itW w = false ∧ itD w = false ∧ sgK w ≠ none ∧ (w.length = 2 ∨ w.length = 1) ∧ isA (w.headD 0) = false) ∧ (k ≠ 37 → w.headD 0 ≠ 61) ∧ itK w = kdI k
def wdB (k : Nat) (w : List Nat) : Bool := decide (w ≠ []) && (w.all (fun c => decide (c < 128)) && (!isB (w.headD 0) && (decide (w.headD 0 < 128) && ((!alI k || (isA (w.headD 0) && ((itW w && (w.all isA && decide (w.length ≤ 10))) || (!itW w && (itD w && (w.all isD && decide (w.length ≤ 6))))))) && ((alI k || (!itW w && (!itD w && ((sgK w).isSome && ((decide (w.length = 2) || decide (w.length = 1)) && !isA (w.headD 0)))))) && ((decide (k = 37) || decide (w.headD 0 ≠ 61)) && decide (itK w = kdI k)))))))
theorem wdB_P {k : Nat} {w : List Nat} (h : wdB k w = true) : wdP k w := by
  unfold wdB at h
  simp only [Bool.and_eq_true, Bool.or_eq_true, Bool.not_eq_true', decide_eq_true_eq, List.all_eq_true] at h
  obtain ⟨h1, h2, h3, h4, h5, h6, h7, h8⟩ := h
  refine ⟨h1, h2, h3, h4, fun z => ?_, fun z => ?_, fun z => ?_, h8⟩
  · rcases h5 with h5 | ⟨a1, a2⟩
    · rw [z] at h5; exact absurd h5 (by decide)
    · exact ⟨a1, a2⟩
  · rcases h6 with h6 | ⟨a1, a2, a3, a4, a5⟩
    · rw [z] at h6; exact absurd h6 (by decide)
    · exact ⟨a1, a2, fun e => by rw [e] at a3; exact absurd a3 (by decide), a4, a5⟩
  · rcases h7 with h7 | h7
    · exact absurd h7 z
    · exact h7
theorem kw_P0 : ∀ k, k < 40 → wdB k (sLs k) = true := by decide +kernel
theorem nm_P0 : ∀ c, c < 113 → 102 ≤ c → ∀ n, n < 10 → wdB 40 (c :: dgL n) = true ∧ itJ (c :: dgL n) = some ((c - 86) * 37 + (n + 1)) := by decide +kernel
theorem nu_P0 : ∀ n, n < 1000 → wdB 41 (dgL n) = true ∧ itJ (dgL n) = some n := by decide +kernel
theorem nl_P0 : wdB 43 [57, 57, 57, 57, 57] = true ∧ itJ [57, 57, 57, 57, 57] = some 99999 := by decide +kernel
theorem wd_P {x : Nat × Nat × List Nat} (h : okI x) : wdP x.1 (wdI x.1 x.2.1) ∧ (x.1 = 40 ∨ x.1 = 41 ∨ x.1 = 43 → itJ (wdI x.1 x.2.1) = some (vlI x.1 x.2.1)) := by
  obtain ⟨k, v, b⟩ := x
  obtain ⟨h, -⟩ := h
  simp only at h ⊢
  rcases h with h | ⟨rfl, h1, h2⟩ | ⟨rfl, h⟩ | rfl
  · have e : wdI k v = sLs k := by unfold wdI; rw [if_neg (by omega), if_neg (by omega), if_neg (by omega)]
    rw [e]
    exact ⟨wdB_P (kw_P0 k h), fun z => by omega⟩
  · have := nm_P0 (v / 1000) (by omega) (by omega) (v % 1000) h2
    exact ⟨wdB_P this.1, fun _ => this.2⟩
  · exact ⟨wdB_P (nu_P0 v h).1, fun _ => (nu_P0 v h).2⟩
  · exact ⟨wdB_P nl_P0.1, fun _ => nl_P0.2⟩
/-- two items that stand beside each other -/
def adI (x y : Nat × Nat × List Nat) : Bool := decide (x.2.2 ≠ []) || (if alI x.1 then !alI y.1 else decide (y.1 ≠ 37))
def chI : List (Nat × Nat × List Nat) → Bool
  | [] => true
  | [x] => !alI x.1
  | x :: y :: r => adI x y && chI (y :: r)
theorem chI_a : ∀ (l : List (Nat × Nat × List Nat)) (v : Nat) (b : List Nat) (m : List (Nat × Nat × List Nat)), chI (l ++ [(29, v, b)]) = true → chI m = true → (∀ y, m.head? = some y → y.1 < 25) → chI (l ++ [(29, v, b)] ++ m) = true
  | [], v, b, [], _, _, _ => rfl
  | [], v, b, y :: m, _, h2, h3 => by
    have hy := h3 y rfl
    show (adI (29, v, b) y && chI (y :: m)) = true
    rw [h2, Bool.and_true]
    show (decide (b ≠ []) || (if alI 29 then !alI y.1 else decide (y.1 ≠ 37))) = true
    rw [if_neg (by decide), Bool.or_eq_true]
    exact .inr (decide_eq_true (by omega))
  | [x], v, b, m, h1, h2, h3 => by
    have h1' : (adI x (29, v, b) && chI [(29, v, b)]) = true := h1
    have := chI_a [] v b m rfl h2 h3
    show (adI x (29, v, b) && chI ([] ++ [(29, v, b)] ++ m)) = true
    rw [this, Bool.and_true]
    exact (Bool.and_eq_true _ _ ▸ h1' : _ ∧ _).1
  | x :: y :: l, v, b, m, h1, h2, h3 => by
    have h1' : (adI x y && chI ((y :: l) ++ [(29, v, b)])) = true := h1
    have h4 : adI x y = true ∧ chI ((y :: l) ++ [(29, v, b)]) = true := by simpa using h1'
    have := chI_a (y :: l) v b m h4.2 h2 h3
    show (adI x y && chI ((y :: l) ++ [(29, v, b)] ++ m)) = true
    rw [this, h4.1]
    rfl
theorem flT_h {l : List (Nat × Nat × List Nat)} {y : Nat × Nat × List Nat} (h : okI y) : (flT ((y :: l).map itI)).headD 0 = (wdI y.1 y.2.1).headD 0 := by
  have := (wd_P h).1.1
  show (wdI y.1 y.2.1 ++ (y.2.2 ++ flT (l.map itI))).headD 0 = _
  cases e : wdI y.1 y.2.1 with
  | nil => exact absurd e this
  | cons c r => rfl
theorem itO_P {x : Nat × Nat × List Nat} {c : Nat} (h : okI x) (hc : x.2.2 ≠ [] ∨ (alI x.1 = true → isA c = false) ∧ (alI x.1 = false → c ≠ 61 ∧ c < 128)) : itO (wdI x.1 x.2.1) x.2.2 c := by
  obtain ⟨⟨w1, w2, w3, w4, w5, w6, -, -⟩, -⟩ := wd_P h
  obtain ⟨-, hb⟩ := h
  have nb : ∀ y ∈ x.2.2, isB y = true := by
    rcases hb with e | e | e <;> rw [e] <;> decide
  have hn : (alI x.1 = true → isA ((x.2.2 ++ [c]).headD 0) = false) ∧ (alI x.1 = false → (x.2.2 ++ [c]).headD 0 ≠ 61 ∧ (x.2.2 ++ [c]).headD 0 < 128) := by
    rcases hb with e | e | e <;> rw [e] at hc ⊢
    · rcases hc with hc | hc
      · exact absurd rfl hc
      · exact hc
    · exact ⟨fun _ => (by decide : isA 32 = false), fun _ => (by decide : (32 : Nat) ≠ 61 ∧ 32 < 128)⟩
    · exact ⟨fun _ => (by decide : isA 10 = false), fun _ => (by decide : (10 : Nat) ≠ 61 ∧ 10 < 128)⟩
  refine ⟨w1, w2, nb, ?_⟩
  cases hk : alI x.1 with
  | true =>
    obtain ⟨-, h5⟩ := w5 hk
    have hA := hn.1 hk
    rcases h5 with ⟨a1, a2, a3⟩ | ⟨a1, a2, a3, a4⟩
    · rw [if_pos a1]; exact ⟨a2, a3, hA⟩
    · rw [if_neg (by rw [a1]; decide), if_pos a2]
      refine ⟨a3, a4, ?_⟩
      unfold isA at hA
      exact (Bool.or_eq_false_iff.mp hA).2
  | false =>
    obtain ⟨a1, a2, a3, a4, -⟩ := w6 hk
    rw [if_neg (by rw [a1]; decide), if_neg (by rw [a2]; decide)]
    refine ⟨a3, w3, ?_⟩
    rcases a4 with a4 | a4
    · exact .inl a4
    · exact .inr ⟨a4, .inr (hn.2 hk)⟩
theorem IOK_P : ∀ l : List (Nat × Nat × List Nat), chI l = true → (∀ x ∈ l, okI x) → IOK (l.map itI)
  | [], _, _ => trivial
  | [x], h, hx => by
    refine ⟨itO_P (hx x (List.mem_singleton.mpr rfl)) (.inr ⟨fun _ => (by decide : isA 0 = false), fun _ => (by decide : (0 : Nat) ≠ 61 ∧ 0 < 128)⟩), (by decide : isB 0 = false), trivial⟩
  | x :: y :: r, h, hx => by
    have h' : adI x y = true ∧ chI (y :: r) = true := by
      have : (adI x y && chI (y :: r)) = true := h
      simpa using this
    have iy : okI y := hx y (by simp)
    obtain ⟨⟨w1, w2, w3, w4, w5, w6, w7, -⟩, -⟩ := wd_P iy
    have hd := flT_h (l := r) iy
    refine ⟨?_, ?_, IOK_P (y :: r) h'.2 (fun z hz => hx z (List.mem_cons_of_mem _ hz))⟩
    · show itO (wdI x.1 x.2.1) x.2.2 ((flT ((y :: r).map itI)).headD 0)
      rw [hd]
      refine itO_P (hx x (by simp)) ?_
      have ha := h'.1
      unfold adI at ha
      rcases (Bool.or_eq_true _ _).mp ha with ha | ha
      · exact .inl (of_decide_eq_true ha)
      · refine .inr ⟨fun hk => ?_, fun hk => ?_⟩
        · rw [if_pos hk] at ha
          exact (w6 (by simpa using ha)).2.2.2.2
        · rw [if_neg (by rw [hk]; decide)] at ha
          exact ⟨w7 (of_decide_eq_true ha), w4⟩
    · show isB ((flT ((y :: r).map itI)).headD 0) = false
      rw [hd]; exact w3
