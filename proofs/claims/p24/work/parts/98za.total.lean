/-! ## Pure: the pacts keep what was caught -/
def smN (c : Nat → Nat) : Nat → Nat
  | 0 => 0
  | n + 1 => smN c n + c n
theorem smN_c {c d : Nat → Nat} : ∀ n, (∀ i, i < n → c i = d i) → smN c n = smN d n
  | 0, _ => rfl
  | n + 1, h => by rw [smN, smN, smN_c n fun i hi => h i (by omega), h n (by omega)]
theorem smN_set {c : Nat → Nat} {f v : Nat} : ∀ n, f < n → smN (fun i => if i = f then v else c i) n + c f = smN c n + v
  | 0, h => absurd h (Nat.not_lt_zero _)
  | n + 1, h => by
    rw [smN, smN]
    by_cases e : f = n
    · subst e
      rw [if_pos rfl, smN_c (d := c) f fun i hi => if_neg (by omega)]
      omega
    · have := smN_set (c := c) (f := f) (v := v) n (by omega)
      rw [if_neg (show ¬ n = f from fun z => e z.symm)]
      omega
theorem smN_le {c : Nat → Nat} {f : Nat} : ∀ n, f < n → c f ≤ smN c n
  | 0, h => absurd h (Nat.not_lt_zero _)
  | n + 1, h => by
    rw [smN]
    by_cases e : f = n
    · subst e; omega
    · have := smN_le (c := c) (f := f) n (by omega); omega
theorem smN_b {c : Nat → Nat} {k : Nat} : ∀ n, (∀ i, i < n → c i ≤ k) → smN c n ≤ k * n
  | 0, _ => Nat.le_refl _
  | n + 1, h => by
    have h1 := smN_b (c := c) (k := k) n fun i hi => h i (by omega)
    have h2 := h n (by omega)
    rw [smN, Nat.mul_succ]
    omega
/-- all catches, s in all -/
def CTa (A : Nat → Nat → Int32) (F s : Nat) (c : Nat → Nat) : Prop := (∀ f, f < F → A (34 + 2 * f) 5 = nI (c f)) ∧ smN c F = s
theorem CT_set {A : Nat → Nat → Int32} {F s f v : Nat} {c : Nat → Nat} {x : Int32} (h : CTa A F s c) (hf : f < F) (hx : x = nI v) : CTa (up2 A (34 + 2 * f) 5 x) F (s + v - c f) (fun i => if i = f then v else c i) := by
  refine ⟨fun f' hf' => ?_, ?_⟩
  · by_cases e : f' = f
    · subst e; rw [up2_eq, hx]; show _ = nI (if f' = f' then v else c f'); rw [if_pos rfl]
    · rw [up2_ne (.inl (by omega))]; show _ = nI (if f' = f then v else c f'); rw [if_neg e]; exact h.1 f' hf'
  · have := smN_set (c := c) (f := f) (v := v) F hf
    have h2 := smN_le (c := c) (f := f) F hf
    rw [h.2] at this h2
    omega
theorem CT_spN {A : Nat → Nat → Int32} {F s p : Nat} {c : Nat → Nat} (hF : F ≤ 8) (h : CTa A F s c) (hs : s < 2 ^ 30) : ∀ i, (∀ j, j < i → ∃ f, f < F ∧ A (75 + 2 * p) j = nI f) → ∃ c' pot, CTa (spN A p i).1 F (s - pot) c' ∧ (spN A p i).2.1 = nI pot ∧ pot ≤ s
  | 0, _ => ⟨c, 0, h, rfl, Nat.zero_le _⟩
  | i + 1, hm => by
    obtain ⟨c', pot, h1, h2, h3⟩ := CT_spN hF h hs i fun j hj => hm j (by omega)
    obtain ⟨f, hf, ef⟩ := hm i (by omega)
    have hP : okP A p i := fun j hj => by obtain ⟨f, hf, e⟩ := hm j (by omega); exact ⟨f, by omega, e⟩
    have em : memA (spN A p i).1 p i = f := by
      unfold memA
      rw [spN_o i (fun f' hf' => by omega) hP, ef, nI_clamp (by omega)]
    have cf := smN_le (c := c') (f := f) F hf
    rw [h1.2] at cf
    have sh : ∃ v, v ≤ c' f ∧ shwA (spN A p i).1 f = nI v := by
      unfold shwA
      rw [h1.1 f hf]
      by_cases e : (spN A p i).1 (34 + 2 * f) 9 = 0
      · rw [if_pos e]; exact ⟨c' f, Nat.le_refl _, rfl⟩
      · rw [if_neg e]; exact ⟨c' f / 2, Nat.div_le_self _ _, nI_div (b := 2) (by omega) (by omega)⟩
    obtain ⟨v, hv, ev⟩ := sh
    show ∃ c' pot, CTa (sp1 p i (spN A p i)).1 F (s - pot) c' ∧ (sp1 p i (spN A p i)).2.1 = nI pot ∧ pot ≤ s
    unfold sp1
    rw [em]
    have z := CT_set (v := c' f - v) (x := (spN A p i).1 (34 + 2 * f) 5 - shwA (spN A p i).1 f) h1 hf (by rw [h1.1 f hf, ev, nI_sub hv])
    refine ⟨fun i => if i = f then c' f - v else c' i, pot + v, ?_, ?_, by omega⟩
    · rw [show s - (pot + v) = s - pot + (c' f - v) - c' f by omega]
      exact z
    · show (spN A p i).2.1 + shwA (spN A p i).1 f = _
      rw [h2, ev, nI_add]
theorem CT_shN {A : Nat → Nat → Int32} {F s p v : Nat} {c : Nat → Nat} (hF : F ≤ 8) (h : CTa A F s c) : ∀ i, (∀ j, j < i → ∃ f, f < F ∧ A (75 + 2 * p) j = nI f) → ∃ c', CTa (shN A p (nI v) i) F (s + i * v) c'
  | 0, _ => ⟨c, by rw [Nat.zero_mul]; exact h⟩
  | i + 1, hm => by
    obtain ⟨c', h1⟩ := CT_shN hF h i fun j hj => hm j (by omega)
    obtain ⟨f, hf, ef⟩ := hm i (by omega)
    have hP : okP A p i := fun j hj => by obtain ⟨f, hf, e⟩ := hm j (by omega); exact ⟨f, by omega, e⟩
    have em : memA (shN A p (nI v) i) p i = f := by
      unfold memA
      rw [shN_o i (fun f' hf' => by omega) hP, ef, nI_clamp (by omega)]
    show ∃ c', CTa (add5 (shN A p (nI v) i) (memA (shN A p (nI v) i) p i) (nI v)) F (s + (i + 1) * v) c'
    rw [em]
    unfold add5
    have z := CT_set (v := c' f + v) (x := shN A p (nI v) i (34 + 2 * f) 5 + nI v) h1 hf (by rw [h1.1 f hf, nI_add])
    refine ⟨fun i => if i = f then c' f + v else c' i, ?_⟩
    rw [show s + (i + 1) * v = s + i * v + (c' f + v) - c' f by rw [Nat.succ_mul]; omega]
    exact z

