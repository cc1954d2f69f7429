/-! ## Pure: lot -/
theorem RS_nz {A A' st : Nat → Nat → Int32} {F G np : Nat} (h : ∀ d, (d < 8 ∨ 11 < d) → A' d = A d) (R : RS A st F G np) : RS A' st F G np := by
  obtain ⟨⟨b1, b2, b3, b4⟩, ⟨d1, d2, d3, d4, d5, d6⟩⟩ := R
  refine ⟨⟨?_, fun g k hg hk => ?_, fun g hg => ?_, fun f' hf' => ?_⟩, ⟨?_, d2, fun g f' hg hf' => ?_, fun f' hf' => ?_, d5, fun p hp => ?_⟩⟩
  · rw [h 0 (by omega)]; exact b1
  · rw [h (19 + 2 * g) (by omega)]; exact b2 g k hg hk
  · rw [h (18 + 2 * g) (by omega)]; exact b3 g hg
  · rw [h (34 + 2 * f') (by omega)]; exact b4 f' hf'
  · rw [h 0 (by omega)]; exact d1
  · rw [h (35 + 2 * f') (by omega)]; exact d3 g f' hg hf'
  · rw [h (34 + 2 * f') (by omega)]; exact d4 f' hf'
  · rw [h (74 + 2 * p) (by omega)]; exact d6 p hp
theorem nz_rows {A A' : Nat → Nat → Int32} (h : nz A' = nz A) : ∀ d, (d < 8 ∨ 11 < d) → A' d = A d := fun d hd => by
  rw [← nz_e (sg := A') hd, h, nz_e hd]
