/-! ## Pure: where no error is noted, nothing of it was touched -/
def kpZ (r : Nat) (M M1 : gMem) : Prop := mI M1 r 7 = 0 → mI M r 7 = 0 ∧ mI M1 r 0 = mI M r 0
theorem kz_r {r : Nat} {M : gMem} : kpZ r M M := fun h => ⟨h, rfl⟩
theorem kz_t {r : Nat} {A B C : gMem} (h1 : kpZ r A B) (h2 : kpZ r B C) : kpZ r A C := fun h => by
  obtain ⟨a, b⟩ := h2 h
  obtain ⟨c, d⟩ := h1 a
  exact ⟨c, b.trans d⟩
theorem kz_w {r a k : Nat} {v : Int32} {M : gMem} (h : a ≠ r ∨ (k ≠ 7 ∧ k ≠ 0)) : kpZ r M (wI M a k v) := fun z => by
  rw [wI_o (by omega)] at z
  exact ⟨z, wI_o (by omega)⟩
theorem kz_n {r p i : Nat} {e : Int32} {M : gMem} (he : e ≠ 0) : kpZ r M (ntM r p e i M) := fun h => by
  by_cases c : mI M r 7 = 0
  · rw [nt_0 c, wI_o (.inr (by decide)), wI_e] at h
    exact absurd h he
  · rw [nt_1 c] at h
    exact absurd h c
theorem kz_k {r p x i : Nat} {M : gMem} : kpZ r M (kwM r p x i M) := by
  unfold kwM
  split
  · exact kz_w (.inr (by decide))
  · exact kz_t (kz_t (kz_w (.inr (by decide))) (kz_n (by decide))) (kz_w (.inr (by decide)))
theorem kz_b {r p i : Nat} {lo hi : Int32} {M : gMem} : kpZ r M (nbM r p lo hi i M) := by
  unfold nbM
  split
  · exact kz_t (kz_w (.inr (by decide))) (kz_n (by decide))
  · exact kz_w (.inr (by decide))
theorem kz_nw {r p x i : Nat} {M : gMem} (hx : isX r x) : kpZ r M (nwM r p x i M) := by
  have : x ≠ r := by unfold isX at hx; omega
  unfold nwM
  split
  · split
    · exact fun z => by
        rw [wI_o (.inl (by omega))] at z
        exact ⟨z, wI_o (.inl (by omega))⟩
    · exact kz_n (by decide)
  · exact kz_n (by decide)
theorem kz_ad {Z : Nat → Nat} {r o c : Nat} {v : Int32} {M : gMem} (ho : o + 86 ≤ r) : kpZ r M (adM Z o c v M) := fun z => by
  rw [ad_8 ho] at z
  exact ⟨z, ad_8 ho⟩
theorem kz_cp {S : Nat → Nat → Bool} {r a b : Nat} {M : gMem} (h : a + 1 < r) : kpZ r M (cpS S a b M) := fun z => by
  have e : ∀ k, mI (cpS S a b M) r k = mI M r k := fun k => by
    show (if (r = a ∨ r = a + 1) ∧ S (r - a) k = true then mI M (b + (r - a)) k else mI M r k) = _
    rw [if_neg (by omega)]
  rw [e] at z
  exact ⟨z, e 0⟩
theorem kz_pa {r a : Nat} {v : Int32} {M : gMem} (h : a + 1 < r) : kpZ r M (paM a v M) := by
  unfold paM
  split
  · exact kz_t (kz_w (.inl (by omega))) (kz_w (.inl (by omega)))
  · exact kz_r
theorem kz_s {Z : Nat → Nat} {r p o c i : Nat} {M : gMem} (ho : o + 86 ≤ r) (n2 : lsn M o 2 < 8) (n3 : lsn M o 3 < 8) (n4 : lsn M o 4 < 24) (n5 : lsn M o 5 < 6) : kpZ r M (stp1 Z r p o c i M) := by
  have wi : ∀ M1 d k v, kpZ r M M1 → d < 86 → kpZ r M (wI M1 (o + d) k v) := fun M1 d k v C1 h2 => kz_t C1 (kz_w (.inl (by omega)))
  have cg : ∀ M1, kpZ r M M1 → kpZ r M (ngM o M1) ∧ kpZ r M (nfM o M1) ∧ kpZ r M (npM o M1) ∧ kpZ r M (noM o M1) := fun M1 C1 => by
    refine ⟨kz_t C1 ?_, kz_t C1 ?_, kz_t C1 ?_, kz_t C1 ?_⟩
    · exact kz_t (kz_w (.inl (by omega))) (kz_cp (by omega))
    · exact kz_t (kz_w (.inl (by omega))) (kz_cp (by omega))
    · exact kz_t (kz_w (.inl (by omega))) (kz_cp (by omega))
    · exact kz_w (.inl (by omega))
  unfold stp1
  by_cases h : c = 16 ∨ c = 17 ∨ c = 4 ∨ c = 19
  · rw [if_pos h]; exact kz_t kz_k (kz_ad ho)
  rw [if_neg h]; clear h
  by_cases h : c = 2 ∨ c = 18
  · rw [if_pos h]; exact kz_t kz_k (kz_ad ho)
  rw [if_neg h]; clear h
  by_cases h : c = 41
  · rw [if_pos h]; exact kz_t kz_b (kz_ad ho)
  rw [if_neg h]; clear h
  by_cases h : c = 15 ∨ c = 44 ∨ c = 23 ∨ c = 24
  · rw [if_pos h]; exact kz_ad ho
  rw [if_neg h]; clear h
  by_cases h : c < 45
  · rw [if_pos h]; exact kz_ad ho
  rw [if_neg h]; clear h
  by_cases h : c = 51
  · rw [if_pos h]; exact (cg _ (kz_nw (.inl rfl))).1
  rw [if_neg h]; clear h
  by_cases h : c = 52
  · rw [if_pos h]; exact (cg _ (kz_nw (.inr (.inl rfl)))).2.1
  rw [if_neg h]; clear h
  by_cases h : c = 53
  · rw [if_pos h]; exact (cg _ (kz_nw (.inr (.inr rfl)))).2.2.1
  rw [if_neg h]; clear h
  by_cases h : c = 54
  · rw [if_pos h]
    refine (cg _ ?_).2.2.2
    split
    · exact kz_r
    · exact kz_n (by decide)
  rw [if_neg h]; clear h
  by_cases h : c = 55
  · rw [if_pos h]; exact wi _ _ _ _ kz_b (by omega)
  rw [if_neg h]; clear h
  by_cases h : c = 57
  · rw [if_pos h]; exact wi _ _ _ _ (wi _ _ _ _ kz_b (by omega)) (by omega)
  rw [if_neg h]; clear h
  by_cases h : c = 58
  · rw [if_pos h]; exact wi _ _ _ _ kz_b (by omega)
  rw [if_neg h]; clear h
  by_cases h : c = 59
  · rw [if_pos h]; exact wi _ _ _ _ kz_b (by omega)
  rw [if_neg h]; clear h
  by_cases h : c = 60
  · rw [if_pos h]; exact wi _ _ _ _ kz_k (by omega)
  rw [if_neg h]; clear h
  by_cases h : c = 61
  · rw [if_pos h]; exact wi _ _ _ _ (wi _ _ _ _ kz_k (by omega)) (by omega)
  rw [if_neg h]; clear h
  by_cases h : c = 64 ∨ c = 66
  · rw [if_pos h]; exact wi _ _ _ _ kz_r (by omega)
  rw [if_neg h]; clear h
  by_cases h : c = 62
  · rw [if_pos h]
    refine kz_t (kz_t ?_ kz_k) (kz_pa (by omega))
    by_cases q : hsP M o (lsn M o 5) (fnd M (r + 3) (mJ M (p + 4) i))
    · rw [cif_t q]; exact kz_n (by decide)
    · rw [cif_f q]; exact kz_r
  rw [if_neg h]; clear h
  by_cases h : c = 63
  · rw [if_pos h]; exact wi _ _ _ _ (wi _ _ _ _ kz_k (by omega)) (by omega)
  rw [if_neg h]; clear h
  by_cases h : c = 65
  · rw [if_pos h]; exact wi _ _ _ _ kz_r (by omega)
  rw [if_neg h]; clear h
  by_cases h : 1000 ≤ c
  · rw [if_pos h]
    split
    · exact wi _ _ _ _ kz_b (by omega)
    · exact kz_t (kz_n (by decide)) kz_b
  rw [if_neg h]; exact kz_r
/-- the whole row of events -/
theorem kz_rn {Z g ps vs : Nat → Nat} {K r p o : Nat} {M0 : gMem} (W : CWd Z g ps vs K r p o M0) : ∀ (a : List (Nat × Nat)) (M : gMem), CI r o M0 M → kpZ r M (rnE Z r p o a M)
  | [], M, C => kz_r
  | e :: t, M, C => by
    have ho := (W_ho W).2
    have C1 := CI_at (k := e.2) ho C
    obtain ⟨n2, n3, n4, n5⟩ := SF_n C1.2.2.2.2
    exact kz_t (kz_t (kz_w (.inr (by decide))) (kz_s ho n2 n3 n4 n5)) (kz_rn W t _ (CI_s1 W C1))

