/-! ## Pure: the reference's single tests and values -/
theorem MR_sq2 {vs : Nat → Nat} {m t d d1 : Nat} {M0 M : gMem} {x : Option (Option (List (Nat × Nat)) × Nat)} {f : Nat → Option (Option (List (Nat × Nat)) × Nat)} {y : Option (Int32 × gMem)} {B : gMem → Option (Int32 × gMem)} (ht : m + 7 ≤ t) (h : MRl vs m t d1 M0 M x y) (hB : ∀ es M1 e, x = some (some es, e) → MI m t M0 M1 → mI M1 m 9 = nI e → mI M1 m 10 = nI d1 → si2 m M1 (mrn vs m t es M) → MRl vs m t d M0 M1 (f e) (B M1)) : MRl vs m t d M0 M (sq x f) (bd y fun r1 M1 => if r1 = 0 then some ((0 : Int32), M1) else B M1) := by
  match x, h, hB with
  | none, _, _ => trivial
  | some (none, e), ⟨M1, h1, h2, h3⟩, _ => exact ⟨M1, by rw [h1, bd_S, if_pos rfl], h2, h3⟩
  | some (some es, e), ⟨M1, h1, h2, h3, h4, h5⟩, hB =>
    have key := hB es M1 e rfl h2 h3 h4 h5
    rw [h1, bd_S, if_neg (show ¬ (1 : Int32) = 0 by decide)]
    show MRl vs m t d M0 M (match f e with
      | none => none
      | some (none, k1) => some (none, k1)
      | some (some es1, k1) => some (some (es ++ es1), k1)) (B M1)
    match f e, key with
    | none, _ => trivial
    | some (none, e1), key => exact key
    | some (some es1, e1), ⟨M2, k1, k2, k3, k4, k5⟩ => exact ⟨M2, k1, k2, k3, k4, by rw [mrn_app]; exact si2_tr k5 (si2_rn ht es1 h5)⟩
theorem MR_si {vs : Nat → Nat} {m t d : Nat} {M0 M M1 : gMem} {x : Option (Option (List (Nat × Nat)) × Nat)} {y : Option (Int32 × gMem)} (ht : m + 7 ≤ t) (hs : si2 m M1 M) (h : MRl vs m t d M0 M1 x y) : MRl vs m t d M0 M x y := by
  match x, h with
  | none, _ => trivial
  | some (none, e), h => exact h
  | some (some es, e), ⟨M2, h1, h2, h3, h4, h5⟩ => exact ⟨M2, h1, h2, h3, h4, si2_tr h5 (si2_rn ht es hs)⟩
theorem MR_ck {vs : Nat → Nat} {m t d : Nat} {M0 M : gMem} {x : Option (Option (List (Nat × Nat)) × Nat)} {y : Option (Int32 × gMem)} (h : MRl vs m t d M0 M x y) : MRl vs m t d M0 M x (bd y fun r1 M1 => ck (r1 = 0 ∨ r1 = 1) <| some (r1, M1)) := by
  match x, h with
  | none, _ => trivial
  | some (none, e), ⟨M2, h1, h2, h3⟩ => exact ⟨M2, by rw [h1, bd_S, ck_t (.inl rfl)], h2, h3⟩
  | some (some es, e), ⟨M2, h1, h2, h3, h4, h5⟩ => exact ⟨M2, by rw [h1, bd_S, ck_t (.inr rfl)], h2, h3, h4, h5⟩
theorem MR_tk {vs : Nat → Nat} {m t d a e : Nat} {g : Nat → Nat} {M0 M : gMem} {y : Option (Int32 × gMem)} (ht : m + 7 ≤ t) (C : MI m t M0 M) (h9 : mI M m 9 = nI e) (h10 : mI M m 10 = nI d) (h : y = if g e = a then some ((1 : Int32), tk' m (e + 1) M) else some ((0 : Int32), M)) : MRl vs m t d M0 M (tk1 g a e) y := by
  unfold tk1
  by_cases c : g e = a
  · rw [if_pos c] at h ⊢
    exact ⟨_, h, MI_w C (.inl (by omega)) ht, wI_e _ _ _ _, (wI_o (.inr (by omega))).trans h10, si2_tk⟩
  · rw [if_neg c] at h ⊢
    exact ⟨M, h, C, h9⟩
theorem if_cg {α : Type} {p q : Prop} [Decidable p] [Decidable q] {a b : α} (h : p ↔ q) : (if p then a else b) = if q then a else b := by
  by_cases c : q
  · rw [if_pos c, if_pos (h.mpr c)]
  · rw [if_neg c, if_neg (fun z => c (h.mp z))]
theorem su1 {n : Nat} : nI (n + 1) - (1 : Int32) = nI n := nI_sub (show 1 ≤ n + 1 by omega)
/-- one deeper -/
def dpM (m d : Nat) (M : gMem) : gMem := wI M m 10 (nI d)
theorem si2_dp {m d : Nat} {A : gMem} : si2 m (dpM m d A) A := fun a b => by
  unfold td' dpM
  rw [wI_cm (a := m) (k := 10) (b := m) (j := 9) (.inr (by omega)), wI_2]
theorem mQk_dp {m t d k : Nat} {M0 M : gMem} (ht : m + 7 ≤ t) (Q : mQk m t d M0 M k) : mQk m t (d + 1) M0 (tk' m (k + 1) (dpM m (d + 1) M)) (k + 1) := by
  obtain ⟨C, h9, h10, ⟨L, l1, l2⟩, ⟨n, n1, n2⟩⟩ := Q
  refine mQk_tk ht ⟨MI_w C (.inl (by omega)) ht, ?_, wI_e _ _ _ _, ⟨L, by omega, ?_⟩, ⟨n, by omega, ?_⟩⟩
  · unfold dpM; rw [wI_o (.inr (by omega))]; exact h9
  · unfold dpM; rw [wI_o (.inl (by omega))]; exact l2
  · unfold dpM; rw [wI_o (.inl (by omega))]; exact n2
theorem dp_dn {m t d e : Nat} {M0 M : gMem} (ht : m + 7 ≤ t) (C : MI m t M0 M) (h9 : mI M m 9 = nI e) (h10 : mI M m 10 = nI (d + 1)) : wI M m 10 (mI M m 10 - (1 : Int32)) = dpM m d M ∧ MI m t M0 (dpM m d M) ∧ mI (dpM m d M) m 9 = nI e ∧ mI (dpM m d M) m 10 = nI d ∧ ∀ a j, a ≠ m → mI (dpM m d M) a j = mI M a j := by
  refine ⟨?_, MI_w C (.inl (by omega)) ht, (wI_o (.inr (by omega))).trans h9, wI_e _ _ _ _, fun a j ha => wI_o (.inl ha)⟩
  rw [h10]
  unfold dpM
  rw [su1]
