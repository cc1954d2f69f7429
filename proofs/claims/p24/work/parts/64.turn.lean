/-! ## Pure: a fisher's turn in the reference -/
/-- the rest that a State has of a Shore -/
def RR (A st : Nat → Nat → Int32) (F G np : Nat) : Prop :=
  st 0 1 = A 0 1 ∧ (∀ i, 5 * G ≤ i → i < 40 → st 1 i = 0) ∧ (∀ g f, g < G → f < F → st 3 (8 * g + f) = A (35 + 2 * f) g) ∧
  (∀ f, f < F → st 7 f = A (34 + 2 * f) 6 ∧ st 8 f = A (34 + 2 * f) 7) ∧ (∀ f, F ≤ f → f < 8 → st 5 f = 0 ∧ st 9 f = 0) ∧
  ∀ p, p < np → st 10 p = A (74 + 2 * p) 5 ∧ st 11 p = A (74 + 2 * p) 6 ∧ st 12 p = A (74 + 2 * p) 7
def RS (A st : Nat → Nat → Int32) (F G np : Nat) : Prop := RE A st F G ∧ RR A st F G np
/-- what the code between two places of the reference has to do with the signs between two places of the class -/
def SR (pg : Nat → Nat) (len : Nat) (A : Nat → Nat → Int32) (code : Nat → Int32) (F G : Nat) (x y u v : Int32) : Prop :=
  ∃ s n c, x = nI s ∧ y = nI (s + n) ∧ s + n ≤ len ∧ u = nI c ∧ v = nI (c + wds pg s n) ∧ c + wds pg s n ≤ 800 ∧ CD pg (A 7) code F G s n c ∧ hgt pg s n = 1
/-- what was told to the reference has been told to the class -/
def TR (pg : Nat → Nat) (len : Nat) (A : Nat → Nat → Int32) (M : gMem) (t F G np ng : Nat) : Prop :=
  (mI M t 0 = nI G ∧ mI M t 4 = nI F ∧ mI M t 8 = nI ng ∧ mI M t 11 = nI np) ∧
  (∀ g, g < G → mI M (t + 1) g = A (18 + 2 * g) 0) ∧
  (∀ f, f < F → mI M (t + 3) f = A (34 + 2 * f) 0 ∧ mI M (t + 4) f = A (34 + 2 * f) 2 ∧ mI M (t + 5) f = A (34 + 2 * f) 3) ∧
  (∀ i, i < ng → mI M (t + 6) i = A (50 + i) 0 ∧ mI M (t + 7) i = A (50 + i) 1 ∧ ((A (50 + i) 2 = A (50 + i) 3 ∧ mI M (t + 12) i ≤ mI M (t + 11) i) ∨ (A (50 + i) 2 ≠ A (50 + i) 3 ∧ SR pg len A (fun k => mI M (t + 15) k) F G (A (50 + i) 2) (A (50 + i) 3) (mI M (t + 11) i) (mI M (t + 12) i)))) ∧
  ∀ p, p < np → mI M (t + 8) p = A (74 + 2 * p) 0 ∧ mI M (t + 9) p = A (74 + 2 * p) 3 ∧ (∀ n k, n ≤ 8 → A (74 + 2 * p) 3 = nI n → k < n → mI M (t + 10) (8 * p + k) = A (75 + 2 * p) k) ∧ (A (74 + 2 * p) 0 = -1 ∨ ((∃ g, g < G ∧ A (74 + 2 * p) 0 = nI g) ∧ SR pg len A (fun k => mI M (t + 15) k) F G (A (74 + 2 * p) 1) (A (74 + 2 * p) 2) (mI M (t + 13) p) (mI M (t + 14) p)))
theorem SR_c {pg : Nat → Nat} {len : Nat} {A A' : Nat → Nat → Int32} {code : Nat → Int32} {F G : Nat} {x y u v : Int32} (h : A' 7 = A 7) (S : SR pg len A code F G x y u v) : SR pg len A' code F G x y u v := by
  unfold SR at *
  rw [h]
  exact S
theorem TR_T {pg : Nat → Nat} {len : Nat} {A A' : Nat → Nat → Int32} {M : gMem} {t F G np ng : Nat} (hG : G ≤ 8) (hF : F ≤ 8) (hnp : np ≤ 6) (hng : ng ≤ 24) (h : eqT A A') (T : TR pg len A M t F G np ng) : TR pg len A' M t F G np ng := by
  obtain ⟨a1, a2, a3, a4, a5⟩ := T
  have h7 : A' 7 = A 7 := funext fun k => h 7 k (by unfold told; omega)
  have hg : ∀ i k, i < ng → A' (50 + i) k = A (50 + i) k := fun i k hi => h _ _ (by unfold told; omega)
  have hp : ∀ p k, p < np → k ≤ 4 → A' (74 + 2 * p) k = A (74 + 2 * p) k := fun p k hp hk => h _ _ (by unfold told; omega)
  have hm : ∀ p k, p < np → A' (75 + 2 * p) k = A (75 + 2 * p) k := fun p k hp => h _ _ (by unfold told; omega)
  refine ⟨a1, fun g q => ?_, fun f q => ?_, fun i q => ?_, fun p q => ?_⟩
  · rw [h (18 + 2 * g) 0 (by unfold told; omega)]; exact a2 g q
  · rw [h (34 + 2 * f) 0 (by unfold told; omega), h (34 + 2 * f) 2 (by unfold told; omega), h (34 + 2 * f) 3 (by unfold told; omega)]; exact a3 f q
  · rw [hg i 0 q, hg i 1 q, hg i 2 q, hg i 3 q]
    obtain ⟨b1, b2, b3⟩ := a4 i q
    exact ⟨b1, b2, b3.imp id fun z => ⟨z.1, SR_c h7 z.2⟩⟩
  · rw [hp p 0 q (by omega), hp p 1 q (by omega), hp p 2 q (by omega), hp p 3 q (by omega)]
    obtain ⟨b1, b2, b3, b4⟩ := a5 p q
    exact ⟨b1, b2, fun n k n8 e hk => by rw [hm p k q]; exact b3 n k n8 e hk, b4.imp id fun z => ⟨z.1, SR_c h7 z.2⟩⟩
theorem hasN_s {f : Nat → Int32} {n : Nat} {x : Int32} : hasN f (n + 1) x ↔ hasN f n x ∨ f n = x := by
  constructor
  · rintro ⟨i, h1, h2⟩
    by_cases c : i = n
    · subst c; exact .inr h2
    · exact .inl ⟨i, by omega, h2⟩
  · rintro (⟨i, h1, h2⟩ | h)
    · exact ⟨i, by omega, h2⟩
    · exact ⟨n, by omega, h⟩
theorem or_cif {p q : Prop} : (cif p 1 0 : Int32) ||| (cif q 1 0 : Int32) = cif (p ∨ q) 1 0 := by
  by_cases hp : p
  · rw [cif_t hp, cif_t (show p ∨ q from .inl hp)]
    by_cases hq : q
    · rw [cif_t hq]; decide
    · rw [cif_f hq]; decide
  · rw [cif_f hp]
    by_cases hq : q
    · rw [cif_t hq, cif_t (show p ∨ q from .inr hq)]; decide
    · rw [cif_f hq, cif_f (show ¬ (p ∨ q) from fun z => z.elim hp hq)]; decide
theorem cif_if {α : Type} {p : Prop} [d : Decidable p] {x y : α} : cif p x y = if p then x else y := by
  by_cases h : p
  · rw [cif_t h, if_pos h]
  · rw [cif_f h, if_neg h]
/-- the goes from i on: where f is to go -/
theorem RE_7 {A st : Nat → Nat → Int32} {F G k : Nat} {v : Int32} (R : RE A st F G) : RE A (up2 st 7 k v) F G := by
  have h : ∀ d, d ≠ 7 → up2 st 7 k v d = st d := fun d hd => funext fun j => up2_ne (.inl hd)
  unfold RE
  rw [h 0 (by omega), h 1 (by omega), h 2 (by omega), h 4 (by omega), h 5 (by omega), h 6 (by omega), h 9 (by omega)]
  exact R
/-- what a sail writes -/
theorem sailA_k {A : Nat → Nat → Int32} {f g : Nat} (hf : f < 8) (hg : g < 8) : sailA A f g (18 + 2 * g) 1 = A (18 + 2 * g) 1 + nI 1 ∧ sailA A f g (34 + 2 * f) 5 = nI (wgN (hlA A g f).1 (sailA A f g (34 + 2 * f) 1).toNatClampNeg 5) ∧ sailA A f g (34 + 2 * f) 6 = nI g ∧ (sailA A f g (34 + 2 * f) 7 = if (hlA A g f).2.2.2 = 0 then A (34 + 2 * f) 7 else A (34 + 2 * f) 7 + nI 1) ∧ sailA A f g (35 + 2 * f) g = A (35 + 2 * f) g + nI (kpN (hlA A g f).1 (sailA A f g (34 + 2 * f) 1).toNatClampNeg 5) ∧ tornA A f g (34 + 2 * f) 1 = sailA A f g (34 + 2 * f) 1 := by
  have em : tornA A f g (34 + 2 * f) 1 = sailA A f g (34 + 2 * f) 1 := by
    unfold sailA ldA lhN
    rw [up2_ne (by omega), up2_ne (by omega), up2_ne (by omega), up1_o (by omega), up2_ne (by omega)]
  have t5 : tornA A f g (34 + 2 * f) 5 = 0 := by
    unfold tornA tearA thereA
    by_cases c : (hlA A g f).2.2.2 = 0
    · rw [if_pos c, up2_ne (by omega), up2_eq]
    · rw [if_neg c, up2_ne (by omega), up2_ne (by omega), up2_ne (by omega), up2_eq]
  rw [← em]
  refine ⟨?_, ?_, ?_, ?_, ?_, rfl⟩
  · unfold sailA ldA lhN
    rw [up2_ne (by omega), up2_ne (by omega), up2_ne (by omega), up1_o (by omega), up2_ne (by omega)]
    unfold tornA tearA thereA
    by_cases c : (hlA A g f).2.2.2 = 0
    · rw [if_pos c, up2_eq]
    · rw [if_neg c, up2_ne (by omega), up2_ne (by omega), up2_eq]
  · unfold sailA ldA lhN
    rw [up2_ne (by omega), up2_ne (by omega), up2_ne (by omega), up1_o (by omega), up2_eq, t5]
    exact Int32.zero_add _
  · unfold sailA ldA lhN
    rw [up2_ne (by omega), up2_ne (by omega), up2_ne (by omega), up1_o (by omega), up2_ne (by omega)]
    unfold tornA tearA thereA
    by_cases c : (hlA A g f).2.2.2 = 0
    · rw [if_pos c, up2_ne (by omega), up2_ne (by omega), up2_eq]
    · rw [if_neg c, up2_ne (by omega), up2_ne (by omega), up2_ne (by omega), up2_ne (by omega), up2_eq]
  · unfold sailA ldA lhN
    rw [up2_ne (by omega), up2_ne (by omega), up2_ne (by omega), up1_o (by omega), up2_ne (by omega)]
    unfold tornA
    by_cases c : (hlA A g f).2.2.2 = 0
    · rw [if_pos c, if_pos c, thereA_o (by omega) (by omega)]
    · rw [if_neg c, if_neg c]
      unfold tearA
      rw [up2_eq, thereA_o (by omega) (by omega)]
  · unfold sailA
    rw [up2_eq]
