/-! ## Pure: the reference looks ahead -/
def bcm (src st : Nat → Nat → Int32) : Nat → Nat → Nat → Int32
  | 0 => st
  | j + 1 => up1 (bcm src st j) (j + 1) (va_cpy (src (j + 1)) (bcm src st j (j + 1)) 0 0 (lenS (j + 1)))
theorem bcm_o {src st : Nat → Nat → Int32} {d : Nat} : ∀ j, (d = 0 ∨ j < d) → bcm src st j d = st d
  | 0, _ => rfl
  | j + 1, h => by rw [bcm, up1_o (by omega), bcm_o j (by omega)]
theorem bcm_v {src st : Nat → Nat → Int32} {d k : Nat} : ∀ j, 1 ≤ d → d ≤ j → k < lenS d → bcm src st j d k = src d k
  | 0, h, h2, _ => by omega
  | j + 1, h, h2, hk => by
    rw [bcm]
    by_cases e : d = j + 1
    · subst e
      rw [up1_e, va_cpy_in (by omega)]
      simp
    · rw [up1_o e]
      exact bcm_v j h (by omega) hk
theorem RS_bec {A st st' : Nat → Nat → Int32} {F G np : Nat} (hF : F ≤ 8) (hG : G ≤ 8) (hp6 : np ≤ 6) (h0 : st' 0 0 = st 0 0 ∧ st' 0 1 = st 0 1) (h : ∀ j k, 1 ≤ j → j < 13 → k < lenS j → st' j k = st j k) (R : RS A st F G np) : RS A st' F G np := by
  have l1 : lenS 1 = 40 := rfl
  have l3 : lenS 3 = 64 := rfl
  have l8 : ∀ j, j ≠ 3 → 2 ≤ j → j < 10 → lenS j = 8 := fun j a b c => (by decide : ∀ j, j < 10 → j ≠ 3 → 2 ≤ j → lenS j = 8) j c a b
  have l6 : ∀ j, 10 ≤ j → j < 13 → lenS j = 6 := fun j b c => (by decide : ∀ j, j < 13 → 10 ≤ j → lenS j = 6) j c b
  obtain ⟨⟨b1, b2, b3, b4⟩, ⟨d1, d2, d3, d4, d5, d6⟩⟩ := R
  refine ⟨⟨?_, fun g k hg hk => ?_, fun g hg => ?_, fun f' hf' => ?_⟩, ⟨?_, fun i i1 i2 => ?_, fun g f' hg hf' => ?_, fun f' hf' => ?_, fun f' i1 i2 => ?_, fun p hp => ?_⟩⟩
  · rw [h0.1]; exact b1
  · rw [h 1 _ (by omega) (by omega) (by omega)]; exact b2 g k hg hk
  · rw [h 2 _ (by omega) (by omega) (by rw [l8 2 (by omega) (by omega) (by omega)]; omega)]; exact b3 g hg
  · have q := fun j (a : j ≠ 3) (b : 2 ≤ j) (c : j < 10) => h j f' (by omega) (by omega) (by rw [l8 j a b c]; omega)
    rw [q 4 (by omega) (by omega) (by omega), q 5 (by omega) (by omega) (by omega), q 6 (by omega) (by omega) (by omega), q 9 (by omega) (by omega) (by omega)]
    exact b4 f' hf'
  · rw [h0.2]; exact d1
  · rw [h 1 _ (by omega) (by omega) (by omega)]; exact d2 i i1 i2
  · rw [h 3 _ (by omega) (by omega) (by omega)]; exact d3 g f' hg hf'
  · have q := fun j (a : j ≠ 3) (b : 2 ≤ j) (c : j < 10) => h j f' (by omega) (by omega) (by rw [l8 j a b c]; omega)
    rw [q 7 (by omega) (by omega) (by omega), q 8 (by omega) (by omega) (by omega)]
    exact d4 f' hf'
  · have q := fun j (a : j ≠ 3) (b : 2 ≤ j) (c : j < 10) => h j f' (by omega) (by omega) (by rw [l8 j a b c]; omega)
    rw [q 5 (by omega) (by omega) (by omega), q 9 (by omega) (by omega) (by omega)]
    exact d5 f' i1 i2
  · have q := fun j (b : 10 ≤ j) (c : j < 13) => h j p (by omega) (by omega) (by rw [l6 j b c]; omega)
    rw [q 10 (by omega) (by omega), q 11 (by omega) (by omega), q 12 (by omega) (by omega)]
    exact d6 p hp

