/-! ## Pure: where the sums of goes and pacts stand: each event -/
theorem T1_54 {pg : Nat → Nat} {o t nO n x h h' : Nat} {C C' P P' : gMem} (T : T1 pg o t nO n x h C P) (hx : 1 ≤ nO → x = 4) (hC : ∀ i k, i < nO → (k = 2 ∨ k = 3) → mI C' (o + (50 + i)) k = mI C (o + (50 + i)) k) (hP : ∀ i, i < nO → mI P' (t + 11) i = mI P (t + 11) i ∧ mI P' (t + 12) i = mI P (t + 12) i) (hN : mI P' (t + 11) nO = nI (wds pg 0 n)) : T1 pg o t (nO + 1) n 1 h' C' P' := fun i hi => by
  by_cases z : i = nO
  · subst z
    exact ⟨n, Nat.le_refl _, hN, fun z => by omega, fun _ _ => rfl, fun z => by omega, fun _ z => by omega⟩
  · have hi2 : i < nO := by omega
    have hx4 := hx (by omega)
    obtain ⟨s, s1, s2, s3, s4, s5, s6⟩ := T i hi2
    refine ⟨s, s1, by rw [(hP i hi2).1]; exact s2, fun _ => by rw [hC i 2 hi2 (.inl rfl)]; exact s3 (.inr (by rw [hx4]; decide)), fun y => absurd (Nat.succ.inj y) z, fun _ => ?_, fun y => absurd (Nat.succ.inj y) z⟩
    obtain ⟨e, e1, e2, e3, e4, e5⟩ := s5 (.inr hx4)
    exact ⟨e, e1, e2, by rw [(hP i hi2).2]; exact e3, by rw [hC i 3 hi2 (.inr rfl)]; exact e4, e5⟩
theorem T1_61 {pg : Nat → Nat} {o t l n h : Nat} {C C' P P' : gMem} (T : T1 pg o t (l + 1) n 2 h C P) (hC : ∀ i k, i < l + 1 → (k = 2 ∨ k = 3) → (i ≠ l ∨ k ≠ 2) → mI C' (o + (50 + i)) k = mI C (o + (50 + i)) k) (hN : mI C' (o + (50 + l)) 2 = nI n) (hP : ∀ i, i < l + 1 → mI P' (t + 11) i = mI P (t + 11) i ∧ mI P' (t + 12) i = mI P (t + 12) i) : T1 pg o t (l + 1) n 3 0 C' P' := fun i hi => by
  obtain ⟨s, s1, s2, s3, s4, s5, s6⟩ := T i hi
  by_cases z : i = l
  · subst z
    have es : s = n := s4 rfl (.inr rfl)
    subst es
    exact ⟨s, s1, by rw [(hP i hi).1]; exact s2, fun _ => hN, fun _ z => by omega, fun z => by omega, fun _ _ => ⟨by rw [Nat.sub_self]; rfl, fun j hj => by omega, .inl rfl⟩⟩
  · refine ⟨s, s1, by rw [(hP i hi).1]; exact s2, fun _ => by rw [hC i 2 hi (.inl rfl) (.inl z)]; exact s3 (.inl (by clear s5; omega)), fun y => absurd (Nat.succ.inj y) z, fun _ => ?_, fun y => absurd (Nat.succ.inj y) z⟩
    obtain ⟨e, e1, e2, e3, e4, e5⟩ := s5 (.inl (by clear s5; omega))
    exact ⟨e, e1, e2, by rw [(hP i hi).2]; exact e3, by rw [hC i 3 hi (.inr rfl) (.inl z)]; exact e4, e5⟩
theorem T1_64 {pg : Nat → Nat} {o t l n h h' : Nat} {C C' P P' : gMem} (T : T1 pg o t (l + 1) n 3 h C P) (hh : h = 0 ∨ h = 1) (hC : ∀ i k, i < l + 1 → (k = 2 ∨ k = 3) → (i ≠ l ∨ k ≠ 3) → mI C' (o + (50 + i)) k = mI C (o + (50 + i)) k) (hN : mI C' (o + (50 + l)) 3 = nI n) (hP : ∀ i, i < l + 1 → mI P' (t + 11) i = mI P (t + 11) i ∧ (i ≠ l → mI P' (t + 12) i = mI P (t + 12) i)) (hN2 : mI P' (t + 12) l = nI (wds pg 0 n)) : T1 pg o t (l + 1) n 4 h' C' P' := fun i hi => by
  obtain ⟨s, s1, s2, s3, s4, s5, s6⟩ := T i hi
  by_cases z : i = l
  · subst z
    obtain ⟨a1, a2, a3⟩ := s6 rfl rfl
    refine ⟨s, s1, by rw [(hP i hi).1]; exact s2, fun _ => by rw [hC i 2 hi (.inl rfl) (.inr (by decide))]; exact s3 (.inr (by decide)), fun _ z => by omega, fun _ => ⟨n, s1, Nat.le_refl _, hN2, hN, ?_⟩, fun _ z => by omega⟩
    rcases hh with h0 | h0
    · rcases a3 with a | a
      · exact .inl a
      · rw [h0] at a; exact absurd a (by decide)
    · rw [h0] at a1; exact .inr ⟨a1, a2⟩
  · refine ⟨s, s1, by rw [(hP i hi).1]; exact s2, fun _ => by rw [hC i 2 hi (.inl rfl) (.inl z)]; exact s3 (.inl (by clear s5; omega)), fun y => absurd (Nat.succ.inj y) z, fun _ => ?_, fun y => absurd (Nat.succ.inj y) z⟩
    obtain ⟨e, e1, e2, e3, e4, e5⟩ := s5 (.inl (by clear s5; omega))
    exact ⟨e, e1, e2, by rw [(hP i hi).2 z]; exact e3, by rw [hC i 3 hi (.inr rfl) (.inl z)]; exact e4, e5⟩
theorem T2_53 {pg : Nat → Nat} {o t nP n y h h' : Nat} {C C' P P' : gMem} (T : T2 pg o t nP n y h C P) (hy : y = 0 ∨ y = 2 ∨ y = 4) (hC : ∀ p k, p < nP → k ≤ 2 → mI C' (o + (74 + 2 * p)) k = mI C (o + (74 + 2 * p)) k) (hN : ∀ k, k ≤ 2 → mI C' (o + (74 + 2 * nP)) k = if k = 0 then -1 else 0) (hP : ∀ p, p < nP → mI P' (t + 13) p = mI P (t + 13) p ∧ mI P' (t + 14) p = mI P (t + 14) p) (hN2 : mI P' (t + 13) nP = nI (wds pg 0 n)) : T2 pg o t (nP + 1) n 1 h' C' P' := fun p hp => by
  by_cases z : p = nP
  · subst z
    exact ⟨n, Nat.le_refl _, hN2, fun _ _ => rfl, 0, 0, Nat.zero_le _, Nat.zero_le _, hN 1 (by decide), hN 2 (by decide), .inl (hN 0 (by decide))⟩
  · have hp2 : p < nP := by omega
    obtain ⟨s, s1, s2, s3, a, b, a1, b1, c1, c2, c3⟩ := T p hp2
    refine ⟨s, s1, by rw [(hP p hp2).1]; exact s2, fun y => absurd (Nat.succ.inj y) z, a, b, a1, b1, by rw [hC p 1 hp2 (by omega)]; exact c1, by rw [hC p 2 hp2 (by omega)]; exact c2, ?_⟩
    rw [hC p 0 hp2 (by omega), (hP p hp2).2]
    rcases c3 with c | ⟨c, d1, d2, d3⟩
    · exact .inl c
    · refine .inr ⟨c, fun y => absurd (Nat.succ.inj y) z, fun y => absurd (Nat.succ.inj y) z, fun _ => d3 ?_⟩
      by_cases u : p + 1 < nP
      · exact .inl u
      · have := d1 (by omega)
        exact .inr (by omega)
theorem T2_63 {pg : Nat → Nat} {o t l n h : Nat} {C C' P P' : gMem} (T : T2 pg o t (l + 1) n 2 h C P) (hC : ∀ p k, p < l + 1 → k ≤ 2 → (p ≠ l ∨ k = 2) → mI C' (o + (74 + 2 * p)) k = mI C (o + (74 + 2 * p)) k) (hN : mI C' (o + (74 + 2 * l)) 1 = nI n) (hP : ∀ p, p < l + 1 → mI P' (t + 13) p = mI P (t + 13) p ∧ mI P' (t + 14) p = mI P (t + 14) p) : T2 pg o t (l + 1) n 3 0 C' P' := fun p hp => by
  obtain ⟨s, s1, s2, s3, a, b, a1, b1, c1, c2, c3⟩ := T p hp
  by_cases z : p = l
  · subst z
    have es : s = n := s3 rfl (.inr rfl)
    subst es
    refine ⟨s, s1, by rw [(hP p hp).1]; exact s2, fun _ z => by omega, s, b, s1, b1, hN, by rw [hC p 2 hp (by omega) (.inr rfl)]; exact c2, .inr ⟨rfl, fun _ => Nat.le_refl _, fun _ _ => ⟨by rw [Nat.sub_self]; rfl, fun j hj => by omega⟩, fun z => by omega⟩⟩
  · refine ⟨s, s1, by rw [(hP p hp).1]; exact s2, fun y => absurd (Nat.succ.inj y) z, a, b, a1, b1, by rw [hC p 1 hp (by omega) (.inl z)]; exact c1, by rw [hC p 2 hp (by omega) (.inl z)]; exact c2, ?_⟩
    rw [hC p 0 hp (by omega) (.inl z), (hP p hp).2]
    rcases c3 with c | ⟨c, d1, d2, d3⟩
    · exact .inl c
    · exact .inr ⟨c, fun y => absurd (Nat.succ.inj y) z, fun y => absurd (Nat.succ.inj y) z, fun _ => d3 (.inl (by omega))⟩
theorem T2_65 {pg : Nat → Nat} {o t l n h h' : Nat} {C C' P P' : gMem} (T : T2 pg o t (l + 1) n 3 h C P) (hh : h = 1) (hC : ∀ p k, p < l + 1 → k ≤ 2 → (p ≠ l ∨ k ≠ 2) → mI C' (o + (74 + 2 * p)) k = mI C (o + (74 + 2 * p)) k) (hN : mI C' (o + (74 + 2 * l)) 2 = nI n) (hP : ∀ p, p < l + 1 → mI P' (t + 13) p = mI P (t + 13) p ∧ (p ≠ l → mI P' (t + 14) p = mI P (t + 14) p)) (hN2 : mI P' (t + 14) l = nI (wds pg 0 n)) : T2 pg o t (l + 1) n 4 h' C' P' := fun p hp => by
  obtain ⟨s, s1, s2, s3, a, b, a1, b1, c1, c2, c3⟩ := T p hp
  by_cases z : p = l
  · subst z
    refine ⟨s, s1, by rw [(hP p hp).1]; exact s2, fun _ z => by omega, a, n, a1, Nat.le_refl _, by rw [hC p 1 hp (by omega) (.inr (by decide))]; exact c1, hN, ?_⟩
    rw [hC p 0 hp (by omega) (.inr (by decide)), hN2]
    rcases c3 with c | ⟨c, d1, d2, d3⟩
    · exact .inl c
    · obtain ⟨e1, e2⟩ := d2 rfl rfl
      exact .inr ⟨c, fun _ => by decide, fun _ z => by omega, fun _ => ⟨s1, rfl, e1.trans hh, e2⟩⟩
  · refine ⟨s, s1, by rw [(hP p hp).1]; exact s2, fun y => absurd (Nat.succ.inj y) z, a, b, a1, b1, by rw [hC p 1 hp (by omega) (.inl z)]; exact c1, by rw [hC p 2 hp (by omega) (.inl z)]; exact c2, ?_⟩
    rw [hC p 0 hp (by omega) (.inl z), (hP p hp).2 z]
    rcases c3 with c | ⟨c, d1, d2, d3⟩
    · exact .inl c
    · exact .inr ⟨c, fun y => absurd (Nat.succ.inj y) z, fun y => absurd (Nat.succ.inj y) z, fun _ => d3 (.inl (by omega))⟩
/-! the code -/
def nmP (c : Nat) : Prop := c = 2 ∨ c = 4 ∨ c = 16 ∨ c = 17 ∨ c = 18 ∨ c = 19
def nnP (pg : Nat → Nat) : Nat → Nat
  | 0 => 0
  | j + 1 => nnP pg j + if pg j = 2 ∨ pg j = 4 ∨ pg j = 16 ∨ pg j = 17 ∨ pg j = 18 ∨ pg j = 19 then 1 else 0
theorem nn_le {pg : Nat → Nat} : ∀ (n s : Nat), s ≤ n → nnP pg s ≤ nnP pg n
  | 0, s, h => by rw [show s = 0 by omega]; exact Nat.le_refl _
  | n + 1, s, h => by
    by_cases z : s = n + 1
    · rw [z]; exact Nat.le_refl _
    · have := nn_le (pg := pg) n s (by omega)
      rw [nnP]; omega
theorem nn_lt {pg : Nat → Nat} {n s : Nat} (h : s < n) (hs : nmP (pg s)) : nnP pg s < nnP pg n := by
  have := nn_le (pg := pg) n (s + 1) h
  rw [nnP, if_pos (show pg s = 2 ∨ pg s = 4 ∨ pg s = 16 ∨ pg s = 17 ∨ pg s = 18 ∨ pg s = 19 from hs)] at this
  omega
theorem nn_n {pg : Nat → Nat} : ∀ n, nnP pg n ≤ n
  | 0 => Nat.le_refl _
  | n + 1 => by
    have := nn_n (pg := pg) n
    rw [nnP]
    split <;> omega
theorem wds_1 {pg : Nat → Nat} {n : Nat} : wds pg 0 (n + 1) = wds pg 0 n + wd (pg n) := by
  rw [wds, Nat.zero_add]
theorem wds_m {pg : Nat → Nat} : ∀ (n s : Nat), s ≤ n → wds pg 0 s ≤ wds pg 0 n
  | 0, s, h => by rw [show s = 0 by omega]; exact Nat.le_refl _
  | n + 1, s, h => by
    by_cases z : s = n + 1
    · rw [z]; exact Nat.le_refl _
    · have := wds_m (pg := pg) n s (by omega)
      rw [wds_1]; omega
theorem wds_lt {pg : Nat → Nat} {n s : Nat} (h : s < n) : wds pg 0 s + wd (pg s) ≤ wds pg 0 n := by
  have := wds_m (pg := pg) n (s + 1) h
  rw [wds_1] at this
  exact this
theorem wd_1 {g : Nat} : 1 ≤ wd g ∧ wd g ≤ 2 := by
  unfold wd
  split <;> omega
theorem wds_2 {pg : Nat → Nat} : ∀ n, wds pg 0 n ≤ 2 * n
  | 0 => Nat.le_refl _
  | n + 1 => by
    have := wds_2 (pg := pg) n
    have := wd_1 (g := pg n)
    rw [wds_1]; omega
def T3 (ef : Nat → Nat × Nat) (vs : Nat → Nat) (t n : Nat) (P : gMem) : Prop :=
  (mI P t 22 = nI (wds (fun s => (ef s).1) 0 n) ∧ mI P t 24 = nI (nnP (fun s => (ef s).1) n)) ∧ ∀ s, s < n → mI P (t + 15) (wds (fun s => (ef s).1) 0 s) = nI (opc (ef s).1) ∧ (nmP (ef s).1 → mI P (t + 15) (wds (fun s => (ef s).1) 0 s + 1) = nI (ef s).2 ∧ mI P (t + 16) (nnP (fun s => (ef s).1) s) = nI (wds (fun s => (ef s).1) 0 s + 1)) ∧ ((ef s).1 = 41 → mI P (t + 15) (wds (fun s => (ef s).1) 0 s + 1) = nI (vs (ef s).2))
theorem T3_fr {ef : Nat → Nat × Nat} {vs : Nat → Nat} {t n : Nat} {P P' : gMem} (T : T3 ef vs t n P) (h1 : mI P' t 22 = mI P t 22 ∧ mI P' t 24 = mI P t 24) (h2 : ∀ k, mI P' (t + 15) k = mI P (t + 15) k ∧ mI P' (t + 16) k = mI P (t + 16) k) : T3 ef vs t n P' := by
  refine ⟨⟨h1.1.trans T.1.1, h1.2.trans T.1.2⟩, fun s hs => ?_⟩
  obtain ⟨a, b, c⟩ := T.2 s hs
  refine ⟨by rw [(h2 _).1]; exact a, fun z => ?_, fun z => by rw [(h2 _).1]; exact c z⟩
  rw [(h2 _).1, (h2 _).2]
  exact b z
theorem pu_r {t L a k : Nat} {v : Int32} {X : gMem} (h : mI X t 22 = nI L) (hL : L < 2 ^ 30) : (a ≠ t → a ≠ t + 15 → mI (puM t v X) a k = mI X a k) ∧ (k ≠ 22 → mI (puM t v X) t k = mI X t k) ∧ mI (puM t v X) t 22 = nI (L + 1) ∧ mI (puM t v X) (t + 15) k = if k = L then v else mI X (t + 15) k := by
  have e : cn X t 22 = L := cn_e h (by omega)
  unfold puM
  rw [e]
  refine ⟨fun h1 h2 => by rw [wI_o (.inl h1), wI_o (.inl h2)], fun h1 => by rw [wI_o (.inr h1), wI_o (.inl (by omega))], wI_e _ _ _ _, ?_⟩
  rw [wI_o (.inl (by omega))]
  by_cases z : k = L
  · rw [if_pos z, z, wI_e]
  · rw [if_neg z, wI_o (.inr z)]
/-- a sign more -/
theorem T3_c {ef : Nat → Nat × Nat} {vs : Nat → Nat} {m t n c i : Nat} {P : gMem} (ht : m + 7 ≤ t) (T : T3 ef vs t n P) (hn : n < 400) (he : ef n = (c, i)) (hc : nmP c ∨ c = 41 ∨ (c = 15 ∨ c = 44 ∨ (20 ≤ c ∧ c ≤ 24) ∨ (31 ≤ c ∧ c ≤ 39))) : T3 ef vs t (n + 1) (mst1 vs m t c i P) ∧ ∀ j k, 11 ≤ j → j ≤ 14 → mI (mst1 vs m t c i P) (t + j) k = mI P (t + j) k := by
  obtain ⟨⟨a1, a2⟩, b⟩ := T
  have ec : (ef n).1 = c := by rw [he]
  have ei : (ef n).2 = i := by rw [he]
  have w2 := wds_2 (pg := fun s => (ef s).1) n
  have n2 := nn_n (pg := fun s => (ef s).1) n
  have W1 : wds (fun s => (ef s).1) 0 (n + 1) = wds (fun s => (ef s).1) 0 n + wd c := by rw [wds_1, ec]
  have lt : ∀ s, s < n → wds (fun s => (ef s).1) 0 s < wds (fun s => (ef s).1) 0 n ∧ ((nmP (ef s).1 ∨ (ef s).1 = 41) → wds (fun s => (ef s).1) 0 s + 1 < wds (fun s => (ef s).1) 0 n) := fun s hs => by
    have h1 : wds (fun s => (ef s).1) 0 s + wd (ef s).1 ≤ wds (fun s => (ef s).1) 0 n := wds_lt hs
    have h2 := wd_1 (g := (ef s).1)
    refine ⟨by omega, fun z => ?_⟩
    have : wd (ef s).1 = 2 := by unfold wd; unfold nmP at z; rw [if_pos (by omega)]
    omega
  -- from what stands at the end
  have fin : ∀ P', mI P' t 22 = nI (wds (fun s => (ef s).1) 0 n + wd c) → mI P' t 24 = nI (nnP (fun s => (ef s).1) n + if c = 2 ∨ c = 4 ∨ c = 16 ∨ c = 17 ∨ c = 18 ∨ c = 19 then 1 else 0) → (∀ k, k < wds (fun s => (ef s).1) 0 n → mI P' (t + 15) k = mI P (t + 15) k) → mI P' (t + 15) (wds (fun s => (ef s).1) 0 n) = nI (opc c) → (∀ k, k < nnP (fun s => (ef s).1) n → mI P' (t + 16) k = mI P (t + 16) k) → (nmP c → mI P' (t + 15) (wds (fun s => (ef s).1) 0 n + 1) = nI i ∧ mI P' (t + 16) (nnP (fun s => (ef s).1) n) = nI (wds (fun s => (ef s).1) 0 n + 1)) → (c = 41 → mI P' (t + 15) (wds (fun s => (ef s).1) 0 n + 1) = nI (vs i)) → T3 ef vs t (n + 1) P' := fun P' f1 f2 f3 f4 f5 f6 f7 => by
    refine ⟨⟨by rw [W1]; exact f1, ?_⟩, fun s hs => ?_⟩
    · rw [f2, nnP, ec]
    · by_cases z : s = n
      · subst z
        rw [ec, ei]
        exact ⟨f4, f6, f7⟩
      · have hs2 : s < n := by omega
        obtain ⟨l1, l2⟩ := lt s hs2
        obtain ⟨b1, b2, b3⟩ := b s hs2
        refine ⟨by rw [f3 _ l1]; exact b1, fun y => ?_, fun y => by rw [f3 _ (l2 (.inr y))]; exact b3 y⟩
        rw [f3 _ (l2 (.inl y)), f5 _ (nn_lt hs2 y)]
        exact b2 y
  generalize wds (fun s => (ef s).1) 0 n = L at *
  generalize nnP (fun s => (ef s).1) n = N at *
  by_cases cn1 : nmP c
  · obtain ⟨w, ew⟩ : ∃ w, mst1 vs m t c i P = nmE m t c w i P := by
      unfold mst1
      unfold nmP at cn1
      by_cases z : c = 16 ∨ c = 17 ∨ c = 4 ∨ c = 19
      · rw [if_pos z]; exact ⟨_, rfl⟩
      · rw [if_neg z, if_pos (by omega)]; exact ⟨_, rfl⟩
    rw [ew]
    have p1 := fun a k => pu_r (a := a) (k := k) (v := nI c) a1 (by omega)
    have eL : cn P t 22 = L := cn_e a1 (by omega)
    have eN : cn P t 24 = N := cn_e a2 (by omega)
    unfold nmE roM
    rw [eL, eN]
    have q22 : mI (wI (wI (puM t (nI c) P) (t + 16) N (nI (L + 1))) t 24 (nI (N + 1))) t 22 = nI (L + 1) := by
      rw [wI_o (.inr (by decide)), wI_o (.inl (by omega))]; exact (p1 0 0).2.2.1
    have p2 := fun a k => pu_r (a := a) (k := k) (v := nI i) q22 (by omega)
    have ho : opc c = c := by unfold opc; unfold nmP at cn1; rw [if_neg (by omega), if_neg (by omega), if_neg (by omega)]
    have wd2 : wd c = 2 := by unfold wd; unfold nmP at cn1; rw [if_pos (by omega)]
    refine ⟨fin _ ?_ ?_ (fun k hk => ?_) ?_ (fun k hk => ?_) (fun _ => ⟨?_, ?_⟩) (fun z => by unfold nmP at cn1; omega), fun j k j1 j2 => ?_⟩
    · rw [wI_o (.inl (by omega)), (p2 0 0).2.2.1, wd2]
    · rw [wI_o (.inl (by omega)), (p2 0 24).2.1 (by decide), wI_e, if_pos (show c = 2 ∨ c = 4 ∨ c = 16 ∨ c = 17 ∨ c = 18 ∨ c = 19 from cn1)]
    · rw [wI_o (.inl (by omega)), (p2 0 k).2.2.2, if_neg (by omega), wI_o (.inl (by omega)), wI_o (.inl (by omega)), (p1 0 k).2.2.2, if_neg (by omega)]
    · rw [wI_o (.inl (by omega)), (p2 0 L).2.2.2, if_neg (by omega), wI_o (.inl (by omega)), wI_o (.inl (by omega)), (p1 0 L).2.2.2, if_pos rfl, ho]
    · rw [wI_o (.inl (by omega)), (p2 (t + 16) k).1 (by omega) (by omega), wI_o (.inl (by omega)), wI_o (.inr (by omega)), (p1 (t + 16) k).1 (by omega) (by omega)]
    · rw [wI_o (.inl (by omega)), (p2 0 (L + 1)).2.2.2, if_pos rfl]
    · rw [wI_o (.inl (by omega)), (p2 (t + 16) N).1 (by omega) (by omega), wI_o (.inl (by omega)), wI_e]
    · rw [wI_o (.inl (by omega)), (p2 (t + j) k).1 (by omega) (by omega), wI_o (.inl (by omega)), wI_o (.inl (by omega)), (p1 (t + j) k).1 (by omega) (by omega)]
  by_cases c41 : c = 41
  · subst c41
    have ew : mst1 vs m t 41 i P = puM t (nI (vs i)) (puM t (nI 30) P) := by
      unfold mst1
      rw [if_neg (by decide), if_neg (by decide), if_pos rfl]
    rw [ew]
    have p1 := fun a k => pu_r (a := a) (k := k) (v := nI 30) a1 (by omega)
    have p2 := fun a k => pu_r (a := a) (k := k) (v := nI (vs i)) (p1 0 0).2.2.1 (by omega)
    refine ⟨fin _ ?_ ?_ (fun k hk => ?_) ?_ (fun k hk => ?_) (fun z => absurd z cn1) (fun _ => ?_), fun j k j1 j2 => ?_⟩
    · rw [(p2 0 0).2.2.1]; rfl
    · rw [(p2 0 24).2.1 (by decide), (p1 0 24).2.1 (by decide), a2]; rfl
    · rw [(p2 0 k).2.2.2, if_neg (by omega), (p1 0 k).2.2.2, if_neg (by omega)]
    · rw [(p2 0 L).2.2.2, if_neg (by omega), (p1 0 L).2.2.2, if_pos rfl]; rfl
    · rw [(p2 (t + 16) k).1 (by omega) (by omega), (p1 (t + 16) k).1 (by omega) (by omega)]
    · rw [(p2 0 (L + 1)).2.2.2, if_pos rfl]
    · rw [(p2 (t + j) k).1 (by omega) (by omega), (p1 (t + j) k).1 (by omega) (by omega)]
  · have co : c = 15 ∨ c = 44 ∨ (20 ≤ c ∧ c ≤ 24) ∨ (31 ≤ c ∧ c ≤ 39) := (hc.resolve_left cn1).resolve_left c41
    rw [ms_op co]
    have p1 := fun a k => pu_r (a := a) (k := k) (v := nI (opc c)) a1 (by omega)
    have wd1 : wd c = 1 := by unfold wd; rw [if_neg (by omega)]
    refine ⟨fin _ ?_ ?_ (fun k hk => ?_) ?_ (fun k hk => ?_) (fun z => absurd z cn1) (fun z => absurd z c41), fun j k j1 j2 => ?_⟩
    · rw [(p1 0 0).2.2.1, wd1]
    · rw [(p1 0 24).2.1 (by decide), a2, if_neg (show ¬ (c = 2 ∨ c = 4 ∨ c = 16 ∨ c = 17 ∨ c = 18 ∨ c = 19) from cn1)]; rfl
    · rw [(p1 0 k).2.2.2, if_neg (by omega)]
    · rw [(p1 0 L).2.2.2, if_pos rfl]
    · exact (p1 (t + 16) k).1 (by omega) (by omega)
    · exact (p1 (t + j) k).1 (by omega) (by omega)

