/-! ## Pure: what may follow what: sizes of a ground, numbers of a fisher, parts of a go, of a pact -/
def aA (c : Nat) (q : Nat × Nat × Nat × Nat) : Option (Nat × Nat × Nat × Nat) :=
  if c < 45 then (if q.2.2.1 = 1 ∨ q.2.2.1 = 2 ∨ q.2.2.2 = 1 then none else some (q.1, q.2.1, q.2.2.1, if q.2.2.2 = 2 then 4 else q.2.2.2))
  else if c = 51 then some (1, q.2)
  else if c = 55 then (if q.1 = 1 then some q else none)
  else if 1000 ≤ c then (if 1 ≤ q.1 ∧ c = 1000 + q.1 then some (q.1 + 1, q.2) else none)
  else if c = 52 then (if q.2.1 = 0 ∨ q.2.1 = 4 then some (q.1, 1, q.2.2) else none)
  else if c = 57 ∨ c = 58 ∨ c = 59 then (if q.2.1 + 56 = c then some (q.1, q.2.1 + 1, q.2.2) else none)
  else if c = 54 then (if q.2.2.1 = 0 ∨ q.2.2.1 = 4 then some (q.1, q.2.1, 1, q.2.2.2) else none)
  else if c = 60 ∨ c = 61 then (if q.2.2.1 + 59 = c then some (q.1, q.2.1, q.2.2.1 + 1, q.2.2.2) else none)
  else if c = 64 ∨ c = 66 then (if q.2.2.1 = 3 ∧ q.2.2.2 ≠ 3 then some (q.1, q.2.1, 4, q.2.2.2) else none)
  else if c = 53 then (if q.2.2.2 = 0 ∨ q.2.2.2 = 2 ∨ q.2.2.2 = 4 then some (q.1, q.2.1, q.2.2.1, 1) else none)
  else if c = 62 then (if q.2.2.2 = 1 ∨ q.2.2.2 = 2 then some (q.1, q.2.1, q.2.2.1, 2) else none)
  else if c = 63 then (if q.2.2.2 = 2 then some (q.1, q.2.1, q.2.2.1, 3) else none)
  else if c = 65 then (if q.2.2.2 = 3 ∧ q.2.2.1 ≠ 3 then some (q.1, q.2.1, q.2.2.1, 4) else none)
  else none
def aE : List (Nat × Nat) → Nat × Nat × Nat × Nat → Option (Nat × Nat × Nat × Nat)
  | [], q => some q
  | x :: r, q => match aA x.1 q with
    | none => none
    | some q1 => aE r q1
theorem aE_app : ∀ (a b : List (Nat × Nat)) (q q1 : Nat × Nat × Nat × Nat), aE a q = some q1 → aE (a ++ b) q = aE b q1
  | [], b, q, q1, e => by cases e; rfl
  | x :: t, b, q, q1, e => by
    simp only [aE, List.cons_append] at e ⊢
    cases c : aA x.1 q with
    | none => rw [c] at e; cases e
    | some h2 => rw [c] at e; exact aE_app t b h2 q1 e
theorem aA_ok {c : Nat} {q q1 : Nat × Nat × Nat × Nat} (h : aA c q = some q1) : okC c := by
  unfold okC
  unfold aA at h
  by_cases c1 : c < 45
  · exact .inl c1
  rw [if_neg c1] at h
  by_cases c2 : 1000 ≤ c
  · exact .inr (.inr c2)
  refine .inr (.inl ?_)
  by_cases d : c = 51
  · omega
  rw [if_neg d] at h; clear d
  by_cases d : c = 55
  · omega
  rw [if_neg d, if_neg c2] at h; clear d
  by_cases d : c = 52
  · omega
  rw [if_neg d] at h; clear d
  by_cases d : c = 57 ∨ c = 58 ∨ c = 59
  · omega
  rw [if_neg d] at h; clear d
  by_cases d : c = 54
  · omega
  rw [if_neg d] at h; clear d
  by_cases d : c = 60 ∨ c = 61
  · omega
  rw [if_neg d] at h; clear d
  by_cases d : c = 64 ∨ c = 66
  · omega
  rw [if_neg d] at h; clear d
  by_cases d : c = 53
  · omega
  rw [if_neg d] at h; clear d
  by_cases d : c = 62
  · omega
  rw [if_neg d] at h; clear d
  by_cases d : c = 63
  · omega
  rw [if_neg d] at h; clear d
  by_cases d : c = 65
  · omega
  rw [if_neg d] at h
  cases h
theorem aE_ok : ∀ (es : List (Nat × Nat)) (q q1 : Nat × Nat × Nat × Nat), aE es q = some q1 → ∀ y ∈ es, okC y.1
  | [], _, _, _, y, hy => by cases hy
  | x :: r, q, q1, h, y, hy => by
    rw [aE] at h
    cases c : aA x.1 q with
    | none => rw [c] at h; cases h
    | some q2 =>
      rw [c] at h
      rcases List.mem_cons.mp hy with e | e
      · rw [e]; exact aA_ok c
      · exact aE_ok r q2 q1 h y e
def AU (x : Option (Option (List (Nat × Nat)) × Nat)) (P Q : Nat × Nat × Nat × Nat → Prop) : Prop := ∀ es e, x = some (some es, e) → ∀ q, P q → ∃ q1, aE es q = some q1 ∧ Q q1
theorem AU_sq {x : Option (Option (List (Nat × Nat)) × Nat)} {f : Nat → Option (Option (List (Nat × Nat)) × Nat)} {P Q R : Nat × Nat × Nat × Nat → Prop} (h1 : AU x P Q) (h2 : ∀ e, AU (f e) Q R) : AU (sq x f) P R := by
  intro es e he q hq
  match x, h1, he with
  | none, _, he => cases he
  | some (none, k), _, he => cases he
  | some (some a, k), h1, he =>
    obtain ⟨q1, e1, hq1⟩ := h1 a k rfl q hq
    have h2 := h2 k
    match hf : f k, h2 with
    | none, _ => simp only [sq, hf] at he; cases he
    | some (none, k1), _ => simp only [sq, hf] at he; cases he
    | some (some b, k1), h2 =>
      simp only [sq, hf] at he
      cases he
      obtain ⟨q2, e2, hq2⟩ := h2 b _ rfl q1 hq1
      exact ⟨q2, by rw [aE_app _ _ _ _ e1]; exact e2, hq2⟩
theorem AU_ft {k : Nat} {P Q : Nat × Nat × Nat × Nat → Prop} : AU (ft k) P Q := by intro es e he; cases he
theorem AU_nil {k : Nat} {P : Nat × Nat × Nat × Nat → Prop} : AU (some (some [], k)) P P := by
  intro es e he q hq
  cases he
  exact ⟨q, rfl, hq⟩
theorem AU_em {c i k : Nat} {P Q : Nat × Nat × Nat × Nat → Prop} (h : ∀ q, P q → ∃ q1, aA c q = some q1 ∧ Q q1) : AU (em (c, i) k) P Q := by
  intro es e he q hq
  cases he
  obtain ⟨q1, e1, h1⟩ := h q hq
  exact ⟨q1, by simp only [aE, e1], h1⟩
theorem AU_tk {g : Nat → Nat} {a k : Nat} {P : Nat × Nat × Nat × Nat → Prop} : AU (tk1 g a k) P P := by
  unfold tk1
  split
  · exact AU_nil
  · exact AU_ft
theorem AU_if {p : Prop} [Decidable p] {c k : Nat} {P Q : Nat × Nat × Nat × Nat → Prop} (h : ∀ q, P q → ∃ q1, aA c q = some q1 ∧ Q q1) : AU (if p then em (c, k) (k + 1) else ft k) P Q := by
  split
  · exact AU_em h
  · exact AU_ft
theorem AU_c {P : Nat × Nat × Nat × Nat → Prop} (h : ∀ c q, c < 45 → P q → ∃ q1, aA c q = some q1 ∧ P q1) : ∀ (es : List (Nat × Nat)), (∀ y ∈ es, y.1 < 45) → ∀ q, P q → ∃ q1, aE es q = some q1 ∧ P q1
  | [], _, q, hq => ⟨q, rfl, hq⟩
  | x :: r, hy, q, hq => by
    obtain ⟨q1, e1, h1⟩ := h x.1 q (hy x List.mem_cons_self) hq
    obtain ⟨q2, e2, h2⟩ := AU_c h r (fun y hy' => hy y (List.mem_cons_of_mem _ hy')) q1 h1
    exact ⟨q2, by simp only [aE, e1]; exact e2, h2⟩
theorem AU_ac {x : Option (Option (List (Nat × Nat)) × Nat)} {P : Nat × Nat × Nat × Nat → Prop} (ac : AC x) (h : ∀ c q, c < 45 → P q → ∃ q1, aA c q = some q1 ∧ P q1) : AU x P P := fun es e he q hq => AU_c h es (ac es e he) q hq
/-- a line begins -/
def LSq (q : Nat × Nat × Nat × Nat) : Prop := (q.2.1 = 0 ∨ q.2.1 = 4) ∧ (q.2.2.1 = 0 ∨ q.2.2.1 = 4) ∧ (q.2.2.2 = 0 ∨ q.2.2.2 = 2 ∨ q.2.2.2 = 4)
theorem aA_x {q : Nat × Nat × Nat × Nat} : (∃ q1, aA 51 q = some q1 ∧ q1 = (1, q.2)) ∧ (q.1 = 1 → aA 55 q = some q) ∧ (∀ s, 1 ≤ s → q.1 = s → aA (1000 + s) q = some (s + 1, q.2)) ∧ (q.2.1 = 0 ∨ q.2.1 = 4 → aA 52 q = some (q.1, 1, q.2.2)) ∧ (q.2.1 = 1 → aA 57 q = some (q.1, 2, q.2.2)) ∧ (q.2.1 = 2 → aA 58 q = some (q.1, 3, q.2.2)) ∧ (q.2.1 = 3 → aA 59 q = some (q.1, 4, q.2.2)) ∧ (q.2.2.1 = 0 ∨ q.2.2.1 = 4 → aA 54 q = some (q.1, q.2.1, 1, q.2.2.2)) ∧ (q.2.2.1 = 1 → aA 60 q = some (q.1, q.2.1, 2, q.2.2.2)) ∧ (q.2.2.1 = 2 → aA 61 q = some (q.1, q.2.1, 3, q.2.2.2)) ∧ (q.2.2.1 = 3 → q.2.2.2 ≠ 3 → aA 64 q = some (q.1, q.2.1, 4, q.2.2.2) ∧ aA 66 q = some (q.1, q.2.1, 4, q.2.2.2)) ∧ (q.2.2.2 = 0 ∨ q.2.2.2 = 2 ∨ q.2.2.2 = 4 → aA 53 q = some (q.1, q.2.1, q.2.2.1, 1)) ∧ (q.2.2.2 = 1 ∨ q.2.2.2 = 2 → aA 62 q = some (q.1, q.2.1, q.2.2.1, 2)) ∧ (q.2.2.2 = 2 → aA 63 q = some (q.1, q.2.1, q.2.2.1, 3)) ∧ (q.2.2.2 = 3 → q.2.2.1 ≠ 3 → aA 65 q = some (q.1, q.2.1, q.2.2.1, 4)) := by
  refine ⟨⟨_, rfl, rfl⟩, fun h => ?_, fun s h1 h2 => ?_, fun h => ?_, fun h => ?_, fun h => ?_, fun h => ?_, fun h => ?_, fun h => ?_, fun h => ?_, fun h h' => ⟨?_, ?_⟩, fun h => ?_, fun h => ?_, fun h => ?_, fun h h' => ?_⟩
  · unfold aA; rw [if_neg (by decide), if_neg (by decide), if_pos rfl, if_pos h]
  · unfold aA; rw [if_neg (by omega), if_neg (by omega), if_neg (by omega), if_pos (by omega), if_pos (by omega), h2]
  · unfold aA; rw [if_neg (by decide), if_neg (by decide), if_neg (by decide), if_neg (by decide), if_pos rfl, if_pos h]
  · unfold aA; rw [if_neg (by decide), if_neg (by decide), if_neg (by decide), if_neg (by decide), if_neg (by decide), if_pos (by decide), if_pos (by omega), h]
  · unfold aA; rw [if_neg (by decide), if_neg (by decide), if_neg (by decide), if_neg (by decide), if_neg (by decide), if_pos (by decide), if_pos (by omega), h]
  · unfold aA; rw [if_neg (by decide), if_neg (by decide), if_neg (by decide), if_neg (by decide), if_neg (by decide), if_pos (by decide), if_pos (by omega), h]
  · unfold aA; rw [if_neg (by decide), if_neg (by decide), if_neg (by decide), if_neg (by decide), if_neg (by decide), if_neg (by decide), if_pos rfl, if_pos h]
  · unfold aA; rw [if_neg (by decide), if_neg (by decide), if_neg (by decide), if_neg (by decide), if_neg (by decide), if_neg (by decide), if_neg (by decide), if_pos (by decide), if_pos (by omega), h]
  · unfold aA; rw [if_neg (by decide), if_neg (by decide), if_neg (by decide), if_neg (by decide), if_neg (by decide), if_neg (by decide), if_neg (by decide), if_pos (by decide), if_pos (by omega), h]
  · unfold aA; rw [if_neg (by decide), if_neg (by decide), if_neg (by decide), if_neg (by decide), if_neg (by decide), if_neg (by decide), if_neg (by decide), if_neg (by decide), if_pos (by decide), if_pos ⟨h, h'⟩]
  · unfold aA; rw [if_neg (by decide), if_neg (by decide), if_neg (by decide), if_neg (by decide), if_neg (by decide), if_neg (by decide), if_neg (by decide), if_neg (by decide), if_pos (by decide), if_pos ⟨h, h'⟩]
  · unfold aA; rw [if_neg (by decide), if_neg (by decide), if_neg (by decide), if_neg (by decide), if_neg (by decide), if_neg (by decide), if_neg (by decide), if_neg (by decide), if_neg (by decide), if_pos rfl, if_pos h]
  · unfold aA; rw [if_neg (by decide), if_neg (by decide), if_neg (by decide), if_neg (by decide), if_neg (by decide), if_neg (by decide), if_neg (by decide), if_neg (by decide), if_neg (by decide), if_neg (by decide), if_pos rfl, if_pos h]
  · unfold aA; rw [if_neg (by decide), if_neg (by decide), if_neg (by decide), if_neg (by decide), if_neg (by decide), if_neg (by decide), if_neg (by decide), if_neg (by decide), if_neg (by decide), if_neg (by decide), if_neg (by decide), if_pos rfl, if_pos h]
  · unfold aA; rw [if_neg (by decide), if_neg (by decide), if_neg (by decide), if_neg (by decide), if_neg (by decide), if_neg (by decide), if_neg (by decide), if_neg (by decide), if_neg (by decide), if_neg (by decide), if_neg (by decide), if_neg (by decide), if_pos rfl, if_pos ⟨h, h'⟩]
theorem aA_c {c : Nat} {q : Nat × Nat × Nat × Nat} (hc : c < 45) (h : q.2.2.1 ≠ 1 ∧ q.2.2.1 ≠ 2 ∧ q.2.2.2 ≠ 1) : aA c q = some (q.1, q.2.1, q.2.2.1, if q.2.2.2 = 2 then 4 else q.2.2.2) := by
  unfold aA
  rw [if_pos hc, if_neg (by omega)]
theorem AU_szL {g : Nat → Nat} : ∀ m s k, 1 ≤ s → AU (szL g m s k) (fun q => LSq q ∧ q.1 = s) LSq
  | 0, _, _, _ => by intro es e he; cases he
  | m + 1, s, k, hs => by
    rw [szL]
    split
    · refine AU_sq (Q := fun q => LSq q ∧ q.1 = s + 1) (AU_if (fun q hq => ⟨_, (aA_x (q := q)).2.2.1 s hs hq.2, hq.1, rfl⟩)) (fun e => AU_szL m (s + 1) e (by omega))
    · intro es e he q hq
      cases he
      exact ⟨q, rfl, hq.1⟩
theorem AU_lnG {g : Nat → Nat} {k : Nat} : AU (lnG g k) LSq LSq := by
  refine AU_sq AU_tk (fun k => AU_sq (Q := fun q => LSq q ∧ q.1 = 1) (AU_if (fun q hq => ⟨_, rfl, hq, rfl⟩)) (fun k => AU_sq AU_tk (fun k => AU_sq (Q := fun q => LSq q ∧ q.1 = 1) (AU_if (fun q hq => ⟨q, (aA_x (q := q)).2.1 hq.2, hq⟩)) (fun k => AU_sq AU_tk (fun k => AU_sq (Q := fun q => LSq q ∧ q.1 = 2) (AU_if (fun q hq => ⟨_, (aA_x (q := q)).2.2.1 1 (Nat.le_refl _) hq.2, hq.1, rfl⟩)) (fun k => AU_szL 401 2 k (by decide)))))))
theorem AU_lnF {g : Nat → Nat} {k : Nat} : AU (lnF g k) LSq LSq := by
  refine AU_sq AU_tk (fun k => AU_sq (Q := fun q => q.2.1 = 1 ∧ (q.2.2.1 = 0 ∨ q.2.2.1 = 4) ∧ (q.2.2.2 = 0 ∨ q.2.2.2 = 2 ∨ q.2.2.2 = 4)) (AU_if (fun q hq => ⟨_, (aA_x (q := q)).2.2.2.1 hq.1, rfl, hq.2⟩)) (fun k => AU_sq AU_tk (fun k => AU_sq (Q := fun q => q.2.1 = 2 ∧ (q.2.2.1 = 0 ∨ q.2.2.1 = 4) ∧ (q.2.2.2 = 0 ∨ q.2.2.2 = 2 ∨ q.2.2.2 = 4)) (AU_if (fun q hq => ⟨_, (aA_x (q := q)).2.2.2.2.1 hq.1, rfl, hq.2⟩)) (fun k => AU_sq AU_tk (fun k => AU_sq (Q := fun q => q.2.1 = 3 ∧ (q.2.2.1 = 0 ∨ q.2.2.1 = 4) ∧ (q.2.2.2 = 0 ∨ q.2.2.2 = 2 ∨ q.2.2.2 = 4)) (AU_if (fun q hq => ⟨_, (aA_x (q := q)).2.2.2.2.2.1 hq.1, rfl, hq.2⟩)) (fun k => AU_sq AU_tk (fun k => AU_if (fun q hq => ⟨_, (aA_x (q := q)).2.2.2.2.2.2.1 hq.1, .inr rfl, hq.2⟩))))))))
theorem AU_lnO {g : Nat → Nat} {k : Nat} (hg : ∀ i, g i < 45) : AU (lnO g k) LSq LSq := by
  unfold lnO
  refine AU_sq (Q := fun q => (q.2.1 = 0 ∨ q.2.1 = 4) ∧ q.2.2.1 = 1 ∧ (q.2.2.2 = 0 ∨ q.2.2.2 = 2 ∨ q.2.2.2 = 4)) (AU_if (fun q hq => ⟨_, (aA_x (q := q)).2.2.2.2.2.2.2.1 hq.2.1, hq.1, rfl, hq.2.2⟩)) (fun k => AU_sq (Q := fun q => (q.2.1 = 0 ∨ q.2.1 = 4) ∧ q.2.2.1 = 2 ∧ (q.2.2.2 = 0 ∨ q.2.2.2 = 2 ∨ q.2.2.2 = 4)) (AU_if (fun q hq => ⟨_, (aA_x (q := q)).2.2.2.2.2.2.2.2.1 hq.2.1, hq.1, rfl, hq.2.2⟩)) (fun k => AU_sq AU_tk (fun k => AU_sq (Q := fun q => (q.2.1 = 0 ∨ q.2.1 = 4) ∧ q.2.2.1 = 3 ∧ (q.2.2.2 = 0 ∨ q.2.2.2 = 2 ∨ q.2.2.2 = 4)) (AU_if (fun q hq => ⟨_, (aA_x (q := q)).2.2.2.2.2.2.2.2.2.1 hq.2.1, hq.1, rfl, hq.2.2⟩)) (fun k => ?_))))
  split
  · refine AU_sq (AU_ac (AC_Px hg 64 0 _ 0) (fun c q hc hq => ⟨_, aA_c hc (by omega), hq.1, hq.2.1, ?_⟩)) (fun e => AU_em (fun q hq => ⟨_, ((aA_x (q := q)).2.2.2.2.2.2.2.2.2.2.1 hq.2.1 (by have := hq.2.2; omega)).1, hq.1, .inr rfl, hq.2.2⟩))
    show (if q.2.2.2 = 2 then 4 else q.2.2.2) = 0 ∨ (if q.2.2.2 = 2 then 4 else q.2.2.2) = 2 ∨ (if q.2.2.2 = 2 then 4 else q.2.2.2) = 4
    split <;> omega
  · exact AU_em (fun q hq => ⟨_, ((aA_x (q := q)).2.2.2.2.2.2.2.2.2.2.1 hq.2.1 (by have := hq.2.2; omega)).2, hq.1, .inr rfl, hq.2.2⟩)
def PSq (x : Nat) (q : Nat × Nat × Nat × Nat) : Prop := (q.2.1 = 0 ∨ q.2.1 = 4) ∧ (q.2.2.1 = 0 ∨ q.2.2.1 = 4) ∧ q.2.2.2 = x
theorem AU_mbL {g : Nat → Nat} : ∀ m k, AU (mbL g m k) (PSq 2) (PSq 2)
  | 0, _ => by intro es e he; cases he
  | m + 1, k => by
    rw [mbL]
    split
    · exact AU_sq (Q := PSq 2) (AU_if (fun q hq => ⟨_, (aA_x (q := q)).2.2.2.2.2.2.2.2.2.2.2.2.1 (.inr hq.2.2), hq.1, hq.2.1, rfl⟩)) (fun e => AU_mbL m e)
    · exact AU_nil
theorem AU_lnP {g : Nat → Nat} {k : Nat} (hg : ∀ i, g i < 45) : AU (lnP g k) LSq LSq := by
  unfold lnP
  refine AU_sq AU_tk (fun k => AU_sq (Q := PSq 1) (AU_if (fun q hq => ⟨_, (aA_x (q := q)).2.2.2.2.2.2.2.2.2.2.2.1 hq.2.2, hq.1, hq.2.1, rfl⟩)) (fun k => AU_sq AU_tk (fun k => AU_sq (Q := PSq 2) (AU_if (fun q hq => ⟨_, (aA_x (q := q)).2.2.2.2.2.2.2.2.2.2.2.2.1 (.inl hq.2.2), hq.1, hq.2.1, rfl⟩)) (fun k => AU_sq (AU_mbL 401 k) (fun k => ?_)))))
  split
  · intro es e he q hq
    cases he
    exact ⟨q, rfl, hq.1, hq.2.1, .inr (.inl hq.2.2)⟩
  · refine AU_sq AU_tk (fun k => AU_sq (Q := PSq 3) (AU_if (fun q hq => ⟨_, (aA_x (q := q)).2.2.2.2.2.2.2.2.2.2.2.2.2.1 hq.2.2, hq.1, hq.2.1, rfl⟩)) (fun k => AU_sq AU_tk (fun k => AU_sq (Q := PSq 3) (AU_ac (AC_Px hg 64 4 _ 0) (fun c q hc hq => ⟨_, aA_c hc (by unfold PSq at hq; omega), hq.1, hq.2.1, ?_⟩)) (fun e => AU_em (fun q hq => ⟨_, (aA_x (q := q)).2.2.2.2.2.2.2.2.2.2.2.2.2.2 hq.2.2 (by have := hq.2.1; omega), hq.1, hq.2.1, .inr (.inr rfl)⟩)))))
    show (if q.2.2.2 = 2 then 4 else q.2.2.2) = 3
    rw [if_neg (by have := hq.2.2; omega)]
    exact hq.2.2
theorem AU_txL {g : Nat → Nat} (hg : ∀ i, g i < 45) : ∀ m k, AU (txL g m k) LSq LSq
  | 0, _ => by intro es e he; cases he
  | m + 1, k => by
    rw [txL]
    split
    · exact AU_nil
    · refine AU_sq ?_ (fun k => AU_sq AU_tk (fun k => AU_txL hg m k))
      unfold ln1
      split
      · exact AU_lnG
      split
      · exact AU_lnF
      split
      · exact AU_lnO hg
      split
      · exact AU_lnP hg
      · exact AU_ft

