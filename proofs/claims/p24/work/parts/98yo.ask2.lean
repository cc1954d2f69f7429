/-! ## Pure: fisher, took, blame, gap -/
theorem STv_w {Z : Nat → Nat} {b m o o' t n kb : Nat} {T : Nat → Nat} {M : gMem} (S : STv Z b m o o' t n kb T M) : ∃ pg len F G np nO, (len ≤ 400 ∧ PG Z pg o len M (cutF 86 o M) ∧ WS (cutF 86 o M) F G np nO ∧ WD (cutF 86 o M) F G ∧ TR pg len (cutF 86 o M) M t F G np nO ∧ RS (cutF 86 o M) (cutF 17 (m + 24) M) F G np ∧ SVa kb (cutF 86 o M) F G) ∧ G ≤ 8 ∧ F ≤ 8 ∧ mI M o 2 = nI G ∧ mI M o 3 = nI F ∧ mI (wI M m 0 0) t 0 = nI G ∧ mI (wI M m 0 0) t 4 = nI F ∧ mT M m = 13 := by
  obtain ⟨pg, len, F, G, np, nO, h1, h2, W, D, TRr, R, V⟩ := S.2.2.2.1
  have A0 : mI M o = cutF 86 o M 0 := (cutF_e (n := 86) (d := 0) (by omega)).symm
  have e := (STv_m 0 S).2.2.2.2.2.1
  have e6 := (STv_m 0 S).2.2.2.2.2.2.2.2
  exact ⟨pg, len, F, G, np, nO, ⟨h1, h2, W, D, TRr, R, V⟩, W.2.1, W.2.2.2.1, by rw [A0]; exact W.1, by rw [A0]; exact W.2.2.1, by rw [e t (by omega)]; exact TRr.1.1, by rw [e t (by omega)]; exact TRr.1.2.1, S.2.2.1.1.1.1⟩
/-- the one who took the most -/
def blN (f : Nat → Int32) : Nat → Int32 × Int32
  | 0 => (-1, 0)
  | j + 1 => if f j ≤ (blN f j).2 then blN f j else (nI j, f j)
theorem blN_s {f : Nat → Int32} : ∀ n, ((blN f n).1 = -1 ∧ (blN f n).2 = 0) ∨ ∃ i, i < n ∧ (blN f n).1 = nI i ∧ (blN f n).2 = f i
  | 0 => .inl ⟨rfl, rfl⟩
  | n + 1 => by
    rw [blN]
    by_cases c : f n ≤ (blN f n).2
    · rw [if_pos c]
      rcases blN_s (f := f) n with h | ⟨i, h1, h2⟩
      · exact .inl h
      · exact .inr ⟨i, by omega, h2⟩
    · rw [if_neg c]
      exact .inr ⟨n, Nat.lt_succ_self n, rfl, rfl⟩
theorem blN_c {f h : Nat → Int32} : ∀ n, (∀ i, i < n → f i = h i) → blN f n = blN h n
  | 0, _ => rfl
  | n + 1, e => by rw [blN, blN, e n (Nat.lt_succ_self n), blN_c n fun i hi => e i (by omega)]
theorem gap_eq {f : Nat → Int32} : ∀ n, (∀ i, i < n + 1 → ∃ a, a < 2 ^ 31 ∧ f i = nI a) → grtN f (n + 1) = maxN f n ∧ lsN f (n + 1) = minN f n
  | 0, h => by
    obtain ⟨a, h1, h2⟩ := h 0 (by omega)
    refine ⟨?_, ?_⟩
    · show imax (nI 0) (f 0) = f 0
      unfold imax
      rw [h2]
      by_cases c : nI 0 < nI a
      · rw [if_pos c]
      · rw [if_neg c]
        have : ¬ 0 < a := fun z => c ((nI_ltI (by omega) h1).mpr z)
        rw [show a = 0 by omega]
    · show imin (nI 2147483647) (f 0) = f 0
      unfold imin
      rw [h2]
      by_cases c : nI a < nI 2147483647
      · rw [if_pos c]
      · rw [if_neg c]
        have : ¬ a < 2147483647 := fun z => c ((nI_ltI h1 (by omega)).mpr z)
        rw [show a = 2147483647 by omega]
  | n + 1, h => by
    obtain ⟨h1, h2⟩ := gap_eq n fun i hi => h i (by omega)
    rw [grtN, lsN, maxN, minN, h1, h2]
    exact ⟨rfl, rfl⟩
theorem mm_c {f h : Nat → Int32} : ∀ n, (∀ i, i < n + 1 → f i = h i) → maxN f n = maxN h n ∧ minN f n = minN h n
  | 0, e => ⟨e 0 (by omega), e 0 (by omega)⟩
  | n + 1, e => by
    obtain ⟨h1, h2⟩ := mm_c n fun i hi => e i (by omega)
    rw [maxN, minN, maxN, minN, h1, h2, e (n + 1) (by omega)]
    exact ⟨rfl, rfl⟩
