/-! ## Pure: a fisher of a copy, changed; how much he has then -/
/-- the fisher f may be another, in his mesh and in whether he cheats -/
def eqM (f : Nat) (A B : Nat → Nat → Int32) : Prop := ∀ d k, (d ≠ 34 + 2 * f ∨ (k ≠ 9 ∧ k ≠ 1)) → B d k = A d k
theorem eqM_X {f : Nat} {A B : Nat → Nat → Int32} (hf : f < 8) (h : eqM f A B) : eqX A B := fun d k z => h d k (by
  unfold toldX told at z
  omega)
theorem eqM_d {f d : Nat} {A B : Nat → Nat → Int32} (h : eqM f A B) (hd : d ≠ 34 + 2 * f) : B d = A d := funext fun k => h d k (.inl hd)
theorem WD_m {f F G : Nat} {A B : Nat → Nat → Int32} (h : eqM f A B) (hm : ∃ c, 1 ≤ c ∧ c ≤ 6 ∧ B (34 + 2 * f) 1 = nI c) (hG : G ≤ 8) (D : WD A F G) : WD B F G := by
  refine ⟨fun g hg s s1 s2 => ?_, fun f' hf' => ?_⟩
  · rw [h _ s (.inl (by omega))]; exact D.1 g hg s s1 s2
  · have d2 := D.2 f' hf'
    unfold okF at d2 ⊢
    rw [h _ 2 (.inr (by omega)), h _ 3 (.inr (by omega))]
    by_cases e : f' = f
    · subst e; exact ⟨hm, d2.2⟩
    · rw [h _ 1 (.inl (by omega))]; exact d2
theorem SVa_m {f F G kb : Nat} {A B : Nat → Nat → Int32} (h : eqM f A B) (V : SVa kb A F G) : SVa kb B F G := by
  refine ⟨fun f' hf' => ?_, fun g hg => ?_, fun f' hf' => ?_, fun f' hf' => ?_⟩
  · rw [h _ 4 (.inr (by omega))]; exact V.1 f' hf'
  · rw [h _ 2 (.inr (by omega)), V.2.1 g hg]
    exact sumN_c F fun i hi => by rw [h _ g (.inl (by omega))]
  · rw [h _ 8 (.inr (by omega)), V.2.2.1 f' hf']
    exact sumN_c G fun i hi => by rw [h _ i (.inl (by omega))]
  · rw [h _ 0 (.inr (by omega))]; exact V.2.2.2 f' hf'
theorem RS_m {f F G np : Nat} {A B st : Nat → Nat → Int32} (hf : f < F) (hG : G ≤ 8) (h : eqM f A B) (h9 : B (34 + 2 * f) 9 = 0 ∨ B (34 + 2 * f) 9 = 1) (hp6 : np ≤ 6) (R : RS A st F G np) : RS B (up2 (up2 st 9 f (B (34 + 2 * f) 9)) 4 f (B (34 + 2 * f) 1)) F G np := by
  obtain ⟨s2, hs2⟩ : ∃ s2, s2 = up2 (up2 st 9 f (B (34 + 2 * f) 9)) 4 f (B (34 + 2 * f) 1) := ⟨_, rfl⟩
  rw [← hs2]
  have so : ∀ d, d ≠ 9 → d ≠ 4 → s2 d = st d := fun d d9 d4 => by rw [hs2, up2_d d4, up2_d d9]
  have s9 : ∀ f', s2 9 f' = if f' = f then B (34 + 2 * f) 9 else st 9 f' := fun f' => by
    rw [hs2, up2_d (by omega)]
    by_cases e : f' = f
    · subst e; rw [up2_eq, if_pos rfl]
    · rw [up2_ne (.inr e), if_neg e]
  have s4 : ∀ f', s2 4 f' = if f' = f then B (34 + 2 * f) 1 else st 4 f' := fun f' => by
    rw [hs2]
    by_cases e : f' = f
    · subst e; rw [up2_eq, if_pos rfl]
    · rw [up2_ne (.inr e), up2_d (by omega), if_neg e]
  obtain ⟨⟨b1, b2, b3, b4⟩, ⟨d1, d2, d3, d4, d5, d6⟩⟩ := R
  refine ⟨⟨?_, fun g k hg hk => ?_, fun g hg => ?_, fun f' hf' => ?_⟩, ⟨?_, fun i i1 i2 => ?_, fun g f' hg hf' => ?_, fun f' hf' => ?_, fun f' i1 i2 => ?_, fun p hp => ?_⟩⟩
  · rw [so 0 (by omega) (by omega), h 0 0 (by omega)]; exact b1
  · rw [so 1 (by omega) (by omega), h _ _ (.inl (by omega))]; exact b2 g k hg hk
  · rw [so 2 (by omega) (by omega), h _ 1 (.inl (by omega))]; exact b3 g hg
  · rw [s4, so 5 (by omega) (by omega), so 6 (by omega) (by omega), s9, h _ 4 (.inr (by omega)), h _ 5 (.inr (by omega))]
    obtain ⟨u1, u2, u3, u4, u5⟩ := b4 f' hf'
    by_cases e : f' = f
    · subst e; rw [if_pos rfl, if_pos rfl]; exact ⟨rfl, u2, u3, rfl, h9⟩
    · rw [if_neg e, if_neg e, h _ 1 (.inl (by omega)), h _ 9 (.inl (by omega))]; exact ⟨u1, u2, u3, u4, u5⟩
  · rw [so 0 (by omega) (by omega), h 0 1 (by omega)]; exact d1
  · rw [so 1 (by omega) (by omega)]; exact d2 i i1 i2
  · rw [so 3 (by omega) (by omega), h _ _ (.inl (by omega))]; exact d3 g f' hg hf'
  · rw [so 7 (by omega) (by omega), so 8 (by omega) (by omega), h _ 6 (.inr (by omega)), h _ 7 (.inr (by omega))]; exact d4 f' hf'
  · rw [so 5 (by omega) (by omega), s9, if_neg (by omega)]; exact d5 f' i1 i2
  · rw [so 10 (by omega) (by omega), so 11 (by omega) (by omega), so 12 (by omega) (by omega), h _ 5 (.inr (by omega)), h _ 6 (.inr (by omega)), h _ 7 (.inr (by omega))]; exact d6 p hp
