/-! ## Pure: where the sums of goes and pacts stand: cells of the class, cells of the reference's first pass -/
/-- the cells that tell it -/
def tcl (o a k : Nat) : Prop := (o + 50 ≤ a ∧ a < o + 74 ∧ (k = 2 ∨ k = 3)) ∨ (o + 74 ≤ a ∧ a < o + 86 ∧ (a - o) % 2 = 0 ∧ k ≤ 2)
theorem nw_o {r p x i a k : Nat} {M : gMem} (h : a ≠ r ∧ a ≠ x) : mI (nwM r p x i M) a k = mI M a k := by
  unfold nwM
  split
  · split
    · rw [wI_o (.inl h.2)]; rfl
    · exact nt_g.2.2.2.2 a k (.inl h.1)
  · exact nt_g.2.2.2.2 a k (.inl h.1)
theorem cp_o2 {S : Nat → Nat → Bool} {a b c k : Nat} {M : gMem} (h : c ≠ a ∧ c ≠ a + 1) : mI (cpS S a b M) c k = mI M c k := by
  rw [cp_r, if_neg (by omega)]
theorem st_cl {Z : Nat → Nat} {r p o c i a k : Nat} {M : gMem} (ho : o + 86 ≤ r) (h : tcl o a k) (hc : c ≠ 53 ∧ c ≠ 61 ∧ c ≠ 63 ∧ c ≠ 64 ∧ c ≠ 65 ∧ c ≠ 66) (n2 : lsn M o 2 < 8) (n3 : lsn M o 3 < 8) (n4 : lsn M o 4 < 24) (n5 : lsn M o 5 < 6) : mI (stp1 Z r p o c i M) a k = mI M a k := by
  unfold tcl at h
  have hr : a ≠ r := by omega
  have h57 : a ≠ o + 5 ∧ a ≠ o + 7 := by omega
  unfold stp1
  by_cases h : c = 16 ∨ c = 17 ∨ c = 4 ∨ c = 19
  · rw [if_pos h, ad_o h57, kw_o hr]
  rw [if_neg h]; clear h
  by_cases h : c = 2 ∨ c = 18
  · rw [if_pos h, ad_o h57, kw_o hr]
  rw [if_neg h]; clear h
  by_cases h : c = 41
  · rw [if_pos h, ad_o h57, nb_o hr]
  rw [if_neg h]; clear h
  by_cases h : c = 15 ∨ c = 44 ∨ c = 23 ∨ c = 24
  · rw [if_pos h, ad_o h57]
  rw [if_neg h]; clear h
  by_cases h : c < 45
  · rw [if_pos h, ad_o h57]
  rw [if_neg h]; clear h
  by_cases h : c = 51
  · rw [if_pos h]
    unfold ngM
    rw [cp_o2 (by omega), wI_o (.inl (by omega)), nw_o (by omega)]
  rw [if_neg h]; clear h
  by_cases h : c = 52
  · rw [if_pos h]
    unfold nfM
    rw [cp_o2 (by omega), wI_o (.inl (by omega)), nw_o (by omega)]
  rw [if_neg h, if_neg hc.1]; clear h
  by_cases h : c = 54
  · rw [if_pos h]
    unfold noM
    rw [wI_o (.inl (by omega))]
    split
    · rfl
    · exact nt_g.2.2.2.2 a k (.inl hr)
  rw [if_neg h]; clear h
  by_cases h : c = 55
  · rw [if_pos h, wI_o (.inl (by omega)), nb_o hr]
  rw [if_neg h]; clear h
  by_cases h : c = 57
  · rw [if_pos h, wI_o (.inl (by omega)), wI_o (.inl (by omega)), nb_o hr]
  rw [if_neg h]; clear h
  by_cases h : c = 58
  · rw [if_pos h, wI_o (.inl (by omega)), nb_o hr]
  rw [if_neg h]; clear h
  by_cases h : c = 59
  · rw [if_pos h, wI_o (.inl (by omega)), nb_o hr]
  rw [if_neg h]; clear h
  by_cases h : c = 60
  · rw [if_pos h, wI_o (by omega), kw_o hr]
  rw [if_neg h, if_neg hc.2.1, if_neg (by omega)]; clear h
  by_cases h : c = 62
  · rw [if_pos h]
    have e : mI (kwM r p (r + 3) i (cif (hsP M o (lsn M o 5) (fnd M (r + 3) (mJ M (p + 4) i))) (ntM r p 6 i M) M)) a k = mI M a k := by
      rw [kw_o hr]
      by_cases q : hsP M o (lsn M o 5) (fnd M (r + 3) (mJ M (p + 4) i))
      · rw [cif_t q]; exact nt_g.2.2.2.2 a k (.inl hr)
      · rw [cif_f q]
    unfold paM
    split
    · rw [wI_o (by omega), wI_o (.inl (by omega)), e]
    · exact e
  rw [if_neg h, if_neg hc.2.2.1, if_neg hc.2.2.2.2.1]; clear h
  by_cases h : 1000 ≤ c
  · rw [if_pos h]
    split
    · rw [wI_o (.inl (by omega)), nb_o hr]
    · rw [nb_o hr]; exact nt_g.2.2.2.2 a k (.inl hr)
  rw [if_neg h]
/-- a row of signs has what it works on -/
def okH (g h : Nat) : Prop := isPO g ∨ g = 15 ∨ ((g = 20 ∨ g = 44) ∧ 1 ≤ h) ∨ (isBi g ∧ 2 ≤ h)
def vld (pg : Nat → Nat) (s k : Nat) : Prop := ∀ j, j < k → okH (pg (s + j)) (hgt pg s j)
theorem vld_s {pg : Nat → Nat} {s k : Nat} (h : vld pg s k) (h1 : okH (pg (s + k)) (hgt pg s k)) : vld pg s (k + 1) := fun j hj => by
  by_cases z : j = k
  · rw [z]; exact h1
  · exact h j (by omega)
theorem hC_s {c h h1 : Nat} (hc : c < 45) (e : hC c h = some h1) : okH c h ∧ hgS c h = h1 ∧ 1 ≤ h1 := by
  unfold hC at e
  unfold okH hgS isPO isBi
  by_cases z1 : c = 41 ∨ c = 2 ∨ c = 4 ∨ c = 15 ∨ c = 16 ∨ c = 17 ∨ c = 18 ∨ c = 19
  · rw [if_pos z1] at e
    cases e
    rw [if_pos z1]
    exact ⟨by omega, rfl, by omega⟩
  rw [if_neg z1] at e ⊢
  by_cases z2 : c = 20 ∨ c = 44
  · rw [if_pos z2] at e ⊢
    by_cases z : 1 ≤ h
    · rw [if_pos z] at e
      cases e
      exact ⟨by omega, rfl, z⟩
    · rw [if_neg z] at e; cases e
  rw [if_neg z2] at e ⊢
  by_cases z3 : c = 21 ∨ c = 22 ∨ c = 23 ∨ c = 24 ∨ (31 ≤ c ∧ c ≤ 39)
  · rw [if_pos z3] at e
    by_cases z : 2 ≤ h
    · rw [if_pos z] at e
      cases e
      exact ⟨by omega, rfl, by omega⟩
    · rw [if_neg z] at e; cases e
  rw [if_neg z3, if_neg (by omega), if_neg (by omega), if_neg (by omega), if_neg (by omega)] at e
  cases e
theorem hC_o {c h h1 : Nat} (hc : 45 ≤ c) (e : hC c h = some h1) : ((c = 61 ∨ c = 63) → h = 0 ∧ h1 = 0) ∧ ((c = 64 ∨ c = 65) → h = 1 ∧ h1 = 0) ∧ (c = 66 → h = 0 ∧ h1 = 0) ∧ (c ≠ 64 → c ≠ 65 → h1 = h) := by
  unfold hC at e
  rw [if_neg (by omega), if_neg (by omega), if_neg (by omega)] at e
  by_cases z1 : c = 61 ∨ c = 63
  · rw [if_pos z1] at e
    by_cases z : h = 0
    · rw [if_pos z] at e
      cases e
      exact ⟨fun _ => ⟨z, rfl⟩, fun _ => by omega, fun _ => by omega, fun _ _ => z.symm⟩
    · rw [if_neg z] at e; cases e
  rw [if_neg z1] at e
  by_cases z2 : c = 64 ∨ c = 65
  · rw [if_pos z2] at e
    by_cases z : h = 1
    · rw [if_pos z] at e
      cases e
      exact ⟨fun _ => by omega, fun _ => ⟨z, rfl⟩, fun _ => by omega, fun _ _ => by omega⟩
    · rw [if_neg z] at e; cases e
  rw [if_neg z2] at e
  by_cases z3 : c = 66
  · rw [if_pos z3] at e
    by_cases z : h = 0
    · rw [if_pos z] at e
      cases e
      exact ⟨fun _ => by omega, fun _ => by omega, fun _ => ⟨z, rfl⟩, fun _ _ => z.symm⟩
    · rw [if_neg z] at e; cases e
  rw [if_neg z3] at e
  by_cases z4 : 50 ≤ c
  · rw [if_pos z4] at e
    cases e
    exact ⟨fun _ => by omega, fun _ => by omega, fun _ => by omega, fun _ _ => rfl⟩
  · rw [if_neg z4] at e; cases e
/-- the tests of the goes -/
def T1 (pg : Nat → Nat) (o t nO n x h : Nat) (C P : gMem) : Prop := ∀ i, i < nO → ∃ s, s ≤ n ∧ mI P (t + 11) i = nI (wds pg 0 s) ∧ ((i + 1 < nO ∨ 3 ≤ x) → mI C (o + (50 + i)) 2 = nI s) ∧ (i + 1 = nO → x = 1 ∨ x = 2 → s = n) ∧ ((i + 1 < nO ∨ x = 4) → ∃ e, s ≤ e ∧ e ≤ n ∧ mI P (t + 12) i = nI (wds pg 0 e) ∧ mI C (o + (50 + i)) 3 = nI e ∧ (e = s ∨ (hgt pg s (e - s) = 1 ∧ vld pg s (e - s)))) ∧ (i + 1 = nO → x = 3 → hgt pg s (n - s) = h ∧ vld pg s (n - s) ∧ (n = s ∨ 1 ≤ h))
/-- the sums of the pacts -/
def T2 (pg : Nat → Nat) (o t nP n y h : Nat) (C P : gMem) : Prop := ∀ p, p < nP → ∃ s, s ≤ n ∧ mI P (t + 13) p = nI (wds pg 0 s) ∧ (p + 1 = nP → y = 1 ∨ y = 2 → s = n) ∧ ∃ a b, a ≤ n ∧ b ≤ n ∧ mI C (o + (74 + 2 * p)) 1 = nI a ∧ mI C (o + (74 + 2 * p)) 2 = nI b ∧ (mI C (o + (74 + 2 * p)) 0 = -1 ∨ (a = s ∧ (p + 1 = nP → 3 ≤ y) ∧ (p + 1 = nP → y = 3 → hgt pg s (n - s) = h ∧ vld pg s (n - s)) ∧ ((p + 1 < nP ∨ y = 4) → s ≤ b ∧ mI P (t + 14) p = nI (wds pg 0 b) ∧ hgt pg s (b - s) = 1 ∧ vld pg s (b - s))))
theorem T1_fr {pg : Nat → Nat} {o t nO n x x' h h' : Nat} {C C' P P' : gMem} (T : T1 pg o t nO n x h C P) (hx : (3 ≤ x' → 3 ≤ x) ∧ (x' = 1 ∨ x' = 2 → x = 1 ∨ x = 2) ∧ (x' = 4 → x = 4) ∧ (x' = 3 → x = 3 ∧ h' = h)) (hC : ∀ i k, i < nO → (k = 2 ∨ k = 3) → mI C' (o + (50 + i)) k = mI C (o + (50 + i)) k) (hP : ∀ i, i < nO → mI P' (t + 11) i = mI P (t + 11) i ∧ mI P' (t + 12) i = mI P (t + 12) i) : T1 pg o t nO n x' h' C' P' := fun i hi => by
  obtain ⟨s, s1, s2, s3, s4, s5, s6⟩ := T i hi
  refine ⟨s, s1, by rw [(hP i hi).1]; exact s2, fun z => by rw [hC i 2 hi (.inl rfl)]; exact s3 (z.imp_right hx.1), fun z y => s4 z (hx.2.1 y), fun z => ?_, fun z y => ?_⟩
  · obtain ⟨e, e1, e2, e3, e4, e5⟩ := s5 (z.imp_right hx.2.2.1)
    exact ⟨e, e1, e2, by rw [(hP i hi).2]; exact e3, by rw [hC i 3 hi (.inr rfl)]; exact e4, e5⟩
  · obtain ⟨z1, z2⟩ := hx.2.2.2 y
    rw [z2]
    exact s6 z z1
theorem T2_fr {pg : Nat → Nat} {o t nP n y y' h h' : Nat} {C C' P P' : gMem} (T : T2 pg o t nP n y h C P) (hy : (3 ≤ y → 3 ≤ y') ∧ (y' = 1 ∨ y' = 2 → y = 1 ∨ y = 2) ∧ (y' = 4 → y = 4 ∨ y < 3) ∧ (y' = 3 → y = 3 ∧ h' = h)) (hC : ∀ p k, p < nP → k ≤ 2 → mI C' (o + (74 + 2 * p)) k = mI C (o + (74 + 2 * p)) k) (hP : ∀ p, p < nP → mI P' (t + 13) p = mI P (t + 13) p ∧ mI P' (t + 14) p = mI P (t + 14) p) : T2 pg o t nP n y' h' C' P' := fun p hp => by
  obtain ⟨s, s1, s2, s3, a, b, a1, b1, c1, c2, c3⟩ := T p hp
  refine ⟨s, s1, by rw [(hP p hp).1]; exact s2, fun z y => s3 z (hy.2.1 y), a, b, a1, b1, by rw [hC p 1 hp (by omega)]; exact c1, by rw [hC p 2 hp (by omega)]; exact c2, ?_⟩
  rw [hC p 0 hp (by omega), (hP p hp).2]
  rcases c3 with c | ⟨c, d1, d2, d3⟩
  · exact .inl c
  · refine .inr ⟨c, fun z => hy.1 (d1 z), fun z w => ?_, fun z => d3 ?_⟩
    · obtain ⟨z1, z2⟩ := hy.2.2.2 w
      rw [z2]
      exact d2 z z1
    · rcases z with z | z
      · exact .inl z
      · by_cases v : p + 1 < nP
        · exact .inl v
        · have := d1 (by omega)
          have := hy.2.2.1 z
          omega
/-- a sign more -/
theorem T1_c {pg : Nat → Nat} {o t nO n x h h1 : Nat} {C C' P P' : gMem} (T : T1 pg o t nO n x h C P) (hx : x ≠ 1 ∧ x ≠ 2) (hc : pg n < 45) (hH : hC (pg n) h = some h1) (hC : ∀ i k, i < nO → (k = 2 ∨ k = 3) → mI C' (o + (50 + i)) k = mI C (o + (50 + i)) k) (hP : ∀ i, i < nO → mI P' (t + 11) i = mI P (t + 11) i ∧ mI P' (t + 12) i = mI P (t + 12) i) : T1 pg o t nO (n + 1) x h1 C' P' := fun i hi => by
  obtain ⟨s, s1, s2, s3, s4, s5, s6⟩ := T i hi
  obtain ⟨k1, k2, k3⟩ := hC_s hc hH
  refine ⟨s, Nat.le_succ_of_le s1, by rw [(hP i hi).1]; exact s2, fun z => by rw [hC i 2 hi (.inl rfl)]; exact s3 z, fun z y => (y.elim hx.1 hx.2).elim, fun z => ?_, fun z y => ?_⟩
  · obtain ⟨e, e1, e2, e3, e4, e5⟩ := s5 z
    exact ⟨e, e1, Nat.le_succ_of_le e2, by rw [(hP i hi).2]; exact e3, by rw [hC i 3 hi (.inr rfl)]; exact e4, e5⟩
  · obtain ⟨a1, a2, a3⟩ := s6 z y
    clear s5
    have e1 : s + (n - s) = n := by omega
    rw [show n + 1 - s = (n - s) + 1 by omega]
    refine ⟨?_, vld_s a2 (by rw [e1, a1]; exact k1), .inr k3⟩
    rw [hgt, e1, a1]; exact k2
theorem T2_c {pg : Nat → Nat} {o t nP n y h h1 : Nat} {C C' P P' : gMem} (T : T2 pg o t nP n y h C P) (hy : y ≠ 1) (hc : pg n < 45) (hH : hC (pg n) h = some h1) (hC : ∀ p k, p < nP → k ≤ 2 → mI C' (o + (74 + 2 * p)) k = mI C (o + (74 + 2 * p)) k) (hP : ∀ p, p < nP → mI P' (t + 13) p = mI P (t + 13) p ∧ mI P' (t + 14) p = mI P (t + 14) p) : T2 pg o t nP (n + 1) (if y = 2 then 4 else y) h1 C' P' := fun p hp => by
  obtain ⟨s, s1, s2, s3, a, b, a1, b1, c1, c2, c3⟩ := T p hp
  obtain ⟨k1, k2, k3⟩ := hC_s hc hH
  refine ⟨s, by omega, by rw [(hP p hp).1]; exact s2, fun z w => ?_, a, b, by omega, by omega, by rw [hC p 1 hp (by omega)]; exact c1, by rw [hC p 2 hp (by omega)]; exact c2, ?_⟩
  · by_cases v : y = 2
    · rw [if_pos v] at w; omega
    · rw [if_neg v] at w; omega
  rw [hC p 0 hp (by omega), (hP p hp).2]
  rcases c3 with c | ⟨c, d1, d2, d3⟩
  · exact .inl c
  · by_cases v : y = 2
    · rw [if_pos v]
      refine .inr ⟨c, fun _ => by decide, fun z w => by omega, fun z => d3 ?_⟩
      by_cases u : p + 1 < nP
      · exact .inl u
      · have := d1 (by omega); omega
    · rw [if_neg v]
      refine .inr ⟨c, d1, fun z w => ?_, d3⟩
      obtain ⟨e1, e2⟩ := d2 z w
      have e3 : s + (n - s) = n := by omega
      rw [show n + 1 - s = (n - s) + 1 by omega]
      refine ⟨?_, vld_s e2 (by rw [e3, e1]; exact k1)⟩
      rw [hgt, e3, e1]; exact k2

