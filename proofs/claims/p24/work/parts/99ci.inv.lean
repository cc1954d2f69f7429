/-! ## Pure: what a text tells of rooms and members, through the reading -/
def mcl (o a k : Nat) : Prop := (o + 18 ≤ a ∧ a < o + 34 ∧ (a - o) % 2 = 0 ∧ k = 0) ∨ (o + 74 ≤ a ∧ a < o + 86 ∧ ((a - o) % 2 = 0 → k = 3))
theorem st_mc {Z : Nat → Nat} {r p o c i a k : Nat} {M : gMem} (ho : o + 86 ≤ r) (h : mcl o a k) (hc : c ≠ 51 ∧ c ≠ 53 ∧ c ≠ 55 ∧ c ≠ 62) (n2 : lsn M o 2 < 8) (n3 : lsn M o 3 < 8) (n4 : lsn M o 4 < 24) (n5 : lsn M o 5 < 6) : mI (stp1 Z r p o c i M) a k = mI M a k := by
  unfold mcl at h
  have hr : a ≠ r := by omega
  have h57 : a ≠ o + 5 ∧ a ≠ o + 7 := by omega
  unfold stp1
  by_cases h : c = 16 ∨ c = 17 ∨ c = 4 ∨ c = 19
  · rw [if_pos h, ad_o h57, kw_o hr]
  rw [if_neg h]; clear h
  by_cases h : c = 2 ∨ c = 18
  · rw [if_pos h, ad_o h57, kw_o hr]
  rw [if_neg h]; clear h
  by_cases h : c = 41
  · rw [if_pos h, ad_o h57, nb_o hr]
  rw [if_neg h]; clear h
  by_cases h : c = 15 ∨ c = 44 ∨ c = 23 ∨ c = 24
  · rw [if_pos h, ad_o h57]
  rw [if_neg h]; clear h
  by_cases h : c < 45
  · rw [if_pos h, ad_o h57]
  rw [if_neg h]; clear h
  rw [if_neg hc.1]
  by_cases h : c = 52
  · rw [if_pos h]
    unfold nfM
    rw [cp_o2 (by omega), wI_o (.inl (by omega)), nw_o (by omega)]
  rw [if_neg h, if_neg hc.2.1]; clear h
  by_cases h : c = 54
  · rw [if_pos h]
    unfold noM
    rw [wI_o (.inl (by omega))]
    split
    · rfl
    · exact nt_g.2.2.2.2 a k (.inl hr)
  rw [if_neg h]; clear h
  rw [if_neg hc.2.2.1]
  by_cases h : c = 57
  · rw [if_pos h, wI_o (.inl (by omega)), wI_o (.inl (by omega)), nb_o hr]
  rw [if_neg h]; clear h
  by_cases h : c = 58
  · rw [if_pos h, wI_o (.inl (by omega)), nb_o hr]
  rw [if_neg h]; clear h
  by_cases h : c = 59
  · rw [if_pos h, wI_o (.inl (by omega)), nb_o hr]
  rw [if_neg h]; clear h
  by_cases h : c = 60
  · rw [if_pos h, wI_o (by omega), kw_o hr]
  rw [if_neg h]; clear h
  by_cases h : c = 61
  · rw [if_pos h, wI_o (.inl (by omega)), wI_o (.inl (by omega)), kw_o hr]
  rw [if_neg h]; clear h
  by_cases h : c = 64 ∨ c = 66
  · rw [if_pos h, wI_o (.inl (by omega))]
  rw [if_neg h, if_neg hc.2.2.2]; clear h
  by_cases h : c = 63
  · rw [if_pos h, wI_o (by omega), wI_o (by omega), kw_o hr]
  rw [if_neg h]; clear h
  by_cases h : c = 65
  · rw [if_pos h, wI_o (by omega)]
  rw [if_neg h]; clear h
  by_cases h : 1000 ≤ c
  · rw [if_pos h]
    split
    · rw [wI_o (.inl (by omega)), nb_o hr]
    · rw [nb_o hr]; exact nt_g.2.2.2.2 a k (.inl hr)
  rw [if_neg h]
def wkI (o : Nat) (s : List Nat × List Nat × List Nat × List (List Nat) × Nat) (C : gMem) : Prop :=
  (∀ g, g < s.1.length → ∃ r, r ≤ 8 ∧ mI C (o + (18 + 2 * g)) 0 = nI r) ∧ s.2.2.2.1.length = s.2.2.1.length ∧
  ∀ p, p < s.2.2.1.length → mI C (o + (74 + 2 * p)) 3 = nI (s.2.2.2.1.getD p []).length ∧ (s.2.2.2.1.getD p []).length ≤ 8 ∧ ∀ k, k < (s.2.2.2.1.getD p []).length → mI C (o + (75 + 2 * p)) k = nI ((s.2.2.2.1.getD p []).getD k 0) ∧ (s.2.2.2.1.getD p []).getD k 0 < 8
theorem wkI_fr {o : Nat} {s s' : List Nat × List Nat × List Nat × List (List Nat) × Nat} {C C' : gMem} (e1 : s'.1 = s.1) (e3 : s'.2.2.1 = s.2.2.1) (e4 : s'.2.2.2.1 = s.2.2.2.1) (h8 : s.1.length ≤ 8) (h6 : s.2.2.1.length ≤ 6) (h : ∀ a k, mcl o a k → mI C' a k = mI C a k) (I : wkI o s C) : wkI o s' C' := by
  obtain ⟨i1, i2, i3⟩ := I
  unfold wkI
  rw [e1, e3, e4]
  refine ⟨fun g hg => ?_, i2, fun p hp => ?_⟩
  · rw [h _ _ (by unfold mcl; omega)]; exact i1 g hg
  · obtain ⟨a, b, c⟩ := i3 p hp
    refine ⟨by rw [h _ _ (by unfold mcl; omega)]; exact a, b, fun k hk => ?_⟩
    rw [h _ _ (by unfold mcl; omega)]; exact c k hk
theorem getD_l {ms : List (List Nat)} {x : List Nat} {p : Nat} (h : p < ms.length) : (ms ++ [x]).getD p [] = ms.getD p [] := by
  rw [List.getD_eq_getElem?_getD, List.getD_eq_getElem?_getD, List.getElem?_append_left h]
theorem getD_r {ms : List (List Nat)} {x : List Nat} : (ms ++ [x]).getD ms.length [] = x := by
  rw [List.getD_eq_getElem?_getD, List.getElem?_append_right (Nat.le_refl _), Nat.sub_self]; rfl
theorem getN_l {m : List Nat} {j k : Nat} (h : k < m.length) : (m ++ [j]).getD k 0 = m.getD k 0 := by
  rw [List.getD_eq_getElem?_getD, List.getD_eq_getElem?_getD, List.getElem?_append_left h]
theorem getN_r {m : List Nat} {j : Nat} : (m ++ [j]).getD m.length 0 = j := by
  rw [List.getD_eq_getElem?_getD, List.getElem?_append_right (Nat.le_refl _), Nat.sub_self]; rfl
section WKI
variable {Z g ps vs : Nat → Nat} {K r p o : Nat} {M0 : gMem}
theorem wkI_51 (W : CWd Z g ps vs K r p o M0) {L1 L2 L3 : List Nat} {E : List (Nat × Nat)} {nO k : Nat} {q : Nat × Nat × Nat × Nat} {C D : gMem} (CC : CI r o M0 C) (R : RA Z vs r o 0 7 L1 L2 L3 E nO k q C D) {i : Nat} (hi : i ≤ K) (hg : g i = 40) (hv : vs i < 2 ^ 62) (hl : lkL vs (vs i) L1 0 = none) (n8 : L1.length < 8) {A B P : List Nat} {ms : List (List Nat)} {n : Nat} (eA : A.length = L1.length) (eP : P.length ≤ 6) {x : Nat} (I : wkI o (A, B, P, ms, n) C) : wkI o (A ++ [x], B, P, ms, n) (stp2 Z r p o (51, i) C) := by
  obtain ⟨h7, ⟨⟨a1, a2, a3, a4, a5⟩, b, c⟩, RF1, RO1, RP1, RV1⟩ := R
  obtain ⟨hp, ho⟩ := W_ho W
  have CX := CI_at (k := i) ho CC
  have N := NL_fr (C' := at' r i C) a1 (wI_o (.inl (by omega))) (fun _ => rfl)
  have es : stp2 Z r p o (51, i) C = ngM o (nwM r p (r + 1) i (at' r i C)) := rfl
  rw [es, nw_f W CX hi N hg hv hl (by unfold cap; rw [if_neg (by omega)]; omega)]
  obtain ⟨F1, F2, -⟩ := W_fr W CX
  generalize hX : at' r i C = X at *
  have ex : ∀ a k, (a ≠ r ∨ k ≠ 6) → mI X a k = mI C a k := fun a k h => by rw [← hX]; exact wI_o h
  have e2 : cn (wI (wJ X (r + 1 + 1) L1.length (lN (vs i))) (r + 1) 1 (nI (L1.length + 1))) o 2 = L1.length := cn_e (by rw [wI_o (.inl (by omega))]; exact (ex o 2 (.inl (by omega))).trans a2) (by omega)
  unfold ngM
  rw [e2, show min L1.length 7 = L1.length by omega, show min (L1.length + 1) 8 = L1.length + 1 by omega]
  generalize hY : wI (wI (wJ X (r + 1 + 1) L1.length (lN (vs i))) (r + 1) 1 (nI (L1.length + 1))) o 2 (nI (L1.length + 1)) = Y
  have ey : ∀ a k, (a ≠ r + 1 ∨ k ≠ 1) → (a ≠ o ∨ k ≠ 2) → mI Y a k = mI X a k := fun a k h1 h2 => by
    rw [← hY, wI_o h2, wI_o h1]; rfl
  have ag : ∀ a k, (a ≠ r ∨ k ≠ 6) → (a ≠ r + 1 ∨ k ≠ 1) → (a ≠ o ∨ k ≠ 2) → a ≠ o + (18 + 2 * L1.length) → a ≠ o + (19 + 2 * L1.length) → mI (cpS sG (o + (18 + 2 * L1.length)) (o + 12) Y) a k = mI C a k := fun a k h1 h2 h3 h4 h5 => by
    rw [cp_r, if_neg (by omega), ey a k h2 h3, ex a k h1]
  obtain ⟨i1, i2, i3⟩ := I
  simp only at i1 i2 i3
  refine ⟨fun g' hg' => ?_, i2, fun p' hp' => ?_⟩
  · have hg' : g' < (A ++ [x]).length := hg'
    rw [List.length_append, List.length_cons, List.length_nil] at hg'
    by_cases z : g' = L1.length
    · refine ⟨0, by omega, ?_⟩
      rw [z, cp_r, if_pos ⟨.inl rfl, by rw [Nat.sub_self]; rfl⟩, Nat.sub_self, ey _ _ (by omega) (by omega)]
      exact F1 0 (by omega)
    · rw [ag _ _ (by omega) (by omega) (by omega) (by omega) (by omega)]
      exact i1 g' (by omega)
  · have hp' : p' < P.length := hp'
    obtain ⟨u1, u2, u3⟩ := i3 p' hp'
    refine ⟨by rw [ag _ _ (by omega) (by omega) (by omega) (by omega) (by omega)]; exact u1, u2, fun k hk => ?_⟩
    rw [ag _ _ (by omega) (by omega) (by omega) (by omega) (by omega)]
    exact u3 k hk
theorem wkI_55 (W : CWd Z g ps vs K r p o M0) {L1 L2 L3 : List Nat} {E : List (Nat × Nat)} {nO k : Nat} {q : Nat × Nat × Nat × Nat} {C D : gMem} (CC : CI r o M0 C) (R : RA Z vs r o 0 7 L1 L2 L3 E nO k q C D) {i : Nat} (hi : i ≤ K) (hg : g i = 41) (cr : 1 ≤ vs i ∧ vs i ≤ 8) (hb : q.1 = 1) {A B P : List Nat} {ms : List (List Nat)} {n : Nat} (eA : A.length = L1.length) (eP : P.length ≤ 6) (I : wkI o (A, B, P, ms, n) C) : wkI o (A, B, P, ms, n) (stp2 Z r p o (55, i) C) := by
  obtain ⟨hp, ho⟩ := W_ho W; have CX := CI_at (k := i) ho CC
  obtain ⟨h7, ⟨⟨a1, a2, a3, a4, a5⟩, b, c⟩, RF1, RO1, RP1, RV1⟩ := R
  obtain ⟨n', hn⟩ : ∃ n, L1.length = n + 1 := ⟨L1.length - 1, by have := a5 (by omega); omega⟩
  have n8 : n' < 8 := by have := a1.2.1; omega
  have el : lsn (at' r i C) o 2 = n' := by
    unfold lsn
    rw [show cn (at' r i C) o 2 = L1.length from cn_e ((wI_o (.inl (by omega))).trans a2) (by omega)]
    omega
  have es : stp2 Z r p o (55, i) C = wI (nbM r p 1 8 i (at' r i C)) (o + (18 + 2 * lsn (at' r i C) o 2)) 0 (mI (nbM r p 1 8 i (at' r i C)) r 8) := rfl
  rw [es, el]
  rw [show nbM r p 1 8 i (at' r i C) = wI (at' r i C) r 8 (nI (vs i)) from nb_f (lo := 1) (hh := 8) W CX hi hg (by omega) (by decide) (by decide) cr, wI_e]
  generalize hX : at' r i C = X at *; have ex : ∀ a k, (a ≠ r ∨ k ≠ 6) → mI X a k = mI C a k := (fun a k h => by rw [← hX]; exact wI_o h)
  have ag : ∀ a k, (a ≠ r ∨ (k ≠ 6 ∧ k ≠ 8)) → (a ≠ o + (18 + 2 * n') ∨ k ≠ 0) → mI (wI (wI X r 8 (nI (vs i))) (o + (18 + 2 * n')) 0 (nI (vs i))) a k = mI C a k := fun a k h1 h2 => by rw [wI_o h2, wI_o (by omega), ex a k (by omega)]
  obtain ⟨i1, i2, i3⟩ := I
  simp only at i1 i2 i3
  refine ⟨fun g' hg' => ?_, i2, fun p' hp' => ?_⟩
  · have hg' : g' < A.length := hg'
    by_cases z : g' = n'
    · exact ⟨vs i, cr.2, by rw [z, wI_e]⟩
    · rw [ag _ _ (by omega) (by omega)]
      exact i1 g' hg'
  · have hp' : p' < P.length := hp'
    obtain ⟨u1, u2, u3⟩ := i3 p' hp'
    refine ⟨by rw [ag _ _ (by omega) (by omega)]; exact u1, u2, fun k hk => ?_⟩
    rw [ag _ _ (by omega) (by omega)]
    exact u3 k hk
theorem wkI_53 (W : CWd Z g ps vs K r p o M0) {L1 L2 L3 : List Nat} {E : List (Nat × Nat)} {nO k : Nat} {q : Nat × Nat × Nat × Nat} {C D : gMem} (CC : CI r o M0 C) (R : RA Z vs r o 0 7 L1 L2 L3 E nO k q C D) {i : Nat} (hi : i ≤ K) (hg : g i = 40) (hv : vs i < 2 ^ 62) (hl : lkL vs (vs i) L3 0 = none) (n8 : L3.length < 6) {A B P : List Nat} {ms : List (List Nat)} {n : Nat} (eA : A.length ≤ 8) (eP : P.length = L3.length) {x : Nat} (I : wkI o (A, B, P, ms, n) C) : wkI o (A, B, P ++ [x], ms ++ [[]], n) (stp2 Z r p o (53, i) C) := by
  obtain ⟨hp, ho⟩ := W_ho W; have CX := CI_at (k := i) ho CC
  obtain ⟨h7, RG1, RF1, RO1, ⟨⟨a1, a2, a3, a4, a5⟩, b, c⟩, RV1⟩ := R
  have N := NL_fr (C' := at' r i C) a1 (wI_o (.inl (by omega))) (fun _ => rfl)
  have es : stp2 Z r p o (53, i) C = npM o (nwM r p (r + 5) i (at' r i C)) := rfl
  have hcap : cap r (r + 5) = 6 := if_pos rfl
  rw [es, nw_f W CX hi N hg hv hl (by rw [hcap]; omega)]
  obtain ⟨-, -, -, -, F1, F2⟩ := W_fr W CX
  generalize hX : at' r i C = X at *; have ex : ∀ a k, (a ≠ r ∨ k ≠ 6) → mI X a k = mI C a k := (fun a k h => by rw [← hX]; exact wI_o h)
  have e2 : cn (wI (wJ X (r + 5 + 1) L3.length (lN (vs i))) (r + 5) 1 (nI (L3.length + 1))) o 5 = L3.length := cn_e (by rw [wI_o (.inl (by omega))]; exact (ex o 5 (.inl (by omega))).trans a2) (by omega)
  unfold npM
  rw [e2, show min L3.length 5 = L3.length by omega, show min (L3.length + 1) 6 = L3.length + 1 by omega]
  generalize hY : wI (wI (wJ X (r + 5 + 1) L3.length (lN (vs i))) (r + 5) 1 (nI (L3.length + 1))) o 5 (nI (L3.length + 1)) = Y
  have ey : ∀ a k, (a ≠ r + 5 ∨ k ≠ 1) → (a ≠ o ∨ k ≠ 5) → mI Y a k = mI X a k := fun a k h1 h2 => by
    rw [← hY, wI_o h2, wI_o h1]; rfl
  have ag : ∀ a k, (a ≠ r ∨ k ≠ 6) → (a ≠ r + 5 ∨ k ≠ 1) → (a ≠ o ∨ k ≠ 5) → a ≠ o + (74 + 2 * L3.length) → a ≠ o + (75 + 2 * L3.length) → mI (cpS sP (o + (74 + 2 * L3.length)) (o + 16) Y) a k = mI C a k := fun a k h1 h2 h3 h4 h5 => by
    rw [cp_r, if_neg (by omega), ey a k h2 h3, ex a k h1]
  obtain ⟨i1, i2, i3⟩ := I
  simp only at i1 i2 i3
  refine ⟨fun g' hg' => ?_, by show (ms ++ [[]]).length = (P ++ [x]).length; rw [List.length_append, List.length_append, i2]; rfl, fun p' hp' => ?_⟩
  · have hg' : g' < A.length := hg'
    rw [ag _ _ (by omega) (by omega) (by omega) (by omega) (by omega)]
    exact i1 g' hg'
  · have hp' : p' < (P ++ [x]).length := hp'
    rw [List.length_append, List.length_cons, List.length_nil] at hp'
    show mI _ _ 3 = nI ((ms ++ [[]]).getD p' []).length ∧ ((ms ++ [[]]).getD p' []).length ≤ 8 ∧ ∀ k, k < ((ms ++ [[]]).getD p' []).length → mI _ _ k = nI (((ms ++ [[]]).getD p' []).getD k 0) ∧ ((ms ++ [[]]).getD p' []).getD k 0 < 8
    by_cases z : p' = L3.length
    · have e0 : (ms ++ [[]]).getD p' [] = [] := by
        rw [show p' = ms.length by omega]; exact getD_r
      rw [e0]
      refine ⟨?_, Nat.zero_le _, fun k hk => absurd hk (Nat.not_lt_zero _)⟩
      rw [z, cp_r, if_pos ⟨.inl rfl, by rw [Nat.sub_self]; rfl⟩, Nat.sub_self, ey _ _ (by omega) (by omega)]
      have := F1 3 (by omega)
      rw [if_neg (by omega)] at this
      exact this
    · obtain ⟨u1, u2, u3⟩ := i3 p' (by omega)
      rw [getD_l (show p' < ms.length by omega)]
      refine ⟨by rw [ag _ _ (by omega) (by omega) (by omega) (by omega) (by omega)]; exact u1, u2, fun k hk => ?_⟩
      rw [ag _ _ (by omega) (by omega) (by omega) (by omega) (by omega)]
      exact u3 k hk
theorem wkI_62 (W : CWd Z g ps vs K r p o M0) {L1 L2 L3 : List Nat} {E : List (Nat × Nat)} {nO k : Nat} {q : Nat × Nat × Nat × Nat} {C D : gMem} (CC : CI r o M0 C) (R : RA Z vs r o 0 7 L1 L2 L3 E nO k q C D) {i : Nat} (hi : i ≤ K) (hg : g i = 40) (hv : vs i < 2 ^ 62) {j : Nat} (hl : lkL vs (vs i) L2 0 = some j) {A B P m : List Nat} {ms : List (List Nat)} {n : Nat} (eA : A.length ≤ 8) (eP : P.length = L3.length) (hj : j ∉ m) (hm8 : m.length < 8) (I : wkI o (A, B, P, ms ++ [m], n) C) : wkI o (A, B, P, ms ++ [m ++ [j]], n) (stp2 Z r p o (62, i) C) := by
  obtain ⟨hp, ho⟩ := W_ho W; have CX := CI_at (k := i) ho CC
  obtain ⟨h7, RG1, RF1, RO1, ⟨⟨a1, a2, a3, a4, a5⟩, b, c⟩, RV1⟩ := R
  have N := NL_fr (C' := at' r i C) RF1.1.1 (wI_o (.inl (by omega))) (fun _ => rfl)
  have hF8 : L2.length ≤ 8 := N.2.1
  obtain ⟨i1, i2, i3⟩ := I
  simp only at i1 i2 i3
  have i2' : ms.length + 1 = L3.length := by
    have : (ms ++ [m]).length = P.length := i2
    rw [List.length_append] at this
    have : ms.length + 1 = P.length := this
    omega
  obtain ⟨n', hn⟩ : ∃ n', n' = ms.length := ⟨_, rfl⟩
  have n6 : n' < 6 := by omega
  have el : lsn (at' r i C) o 5 = n' := by
    unfold lsn
    rw [show cn (at' r i C) o 5 = L3.length from cn_e ((wI_o (.inl (by omega))).trans a2) (by omega)]
    omega
  have hj8 := (lkL_lt hl).2
  have xa : ∀ a k, (a ≠ r ∨ k ≠ 6) → mI (at' r i C) a k = mI C a k := fun a k h => wI_o h
  obtain ⟨u1, u2, u3⟩ := i3 n' (by omega)
  rw [hn, getD_r] at u1 u2 u3
  rw [← hn] at u1 u3
  have ec : cn (at' r i C) (o + (74 + 2 * n')) 3 = m.length := cn_e ((xa _ _ (by omega)).trans u1) (by omega)
  have ef : fnd (at' r i C) (r + 3) (mJ (at' r i C) (p + 4) i) = tdV (lkL vs (vs i) L2 0) := by
    rw [X_J W CX hi (.inl hg), fnd_L N hv]
  have es : stp2 Z r p o (62, i) C = paM (o + (74 + 2 * lsn (at' r i C) o 5)) (mI (kwM r p (r + 3) i (cif (hsP (at' r i C) o (lsn (at' r i C) o 5) (fnd (at' r i C) (r + 3) (mJ (at' r i C) (p + 4) i))) (ntM r p 6 i (at' r i C)) (at' r i C))) r 8) (kwM r p (r + 3) i (cif (hsP (at' r i C) o (lsn (at' r i C) o 5) (fnd (at' r i C) (r + 3) (mJ (at' r i C) (p + 4) i))) (ntM r p 6 i (at' r i C)) (at' r i C))) := rfl
  rw [es, el, ef, show lkL vs (vs i) L2 0 = some j from hl, show tdV (some j) = nI j from rfl]
  have nh : ¬ hsP (at' r i C) o n' (nI j) := by
    unfold hsP hasN
    rw [ec]
    rintro ⟨x, x1, x2⟩
    rw [xa _ _ (.inl (by omega)), (u3 x x1).1] at x2
    have x3 := (u3 x x1).2
    have := (nI_eq (by omega) (by omega)).mp x2
    apply hj
    rw [← this, List.getD_eq_getElem?_getD, List.getElem?_eq_getElem x1]
    exact List.getElem_mem x1
  rw [cif_f nh, kw_f W CX hi N hg hv hl, wI_e]
  have ec2 : cn (wI (at' r i C) r 8 (nI j)) (o + (74 + 2 * n')) 3 = m.length := cn_e ((wI_o (.inl (by omega))).trans ((xa _ _ (by omega)).trans u1)) (by omega)
  unfold paM
  rw [ec2, if_pos hm8, show o + (74 + 2 * n') + 1 = o + (75 + 2 * n') by omega]
  clear es ef nh ec2 ec
  generalize hX : at' r i C = X at *; have ex : ∀ a k, (a ≠ r ∨ k ≠ 6) → mI X a k = mI C a k := (fun a k h => by rw [← hX]; exact wI_o h)
  have ag : ∀ a k, (a ≠ r ∨ (k ≠ 6 ∧ k ≠ 8)) → (a ≠ o + (75 + 2 * n') ∨ k ≠ m.length) → (a ≠ o + (74 + 2 * n') ∨ k ≠ 3) → mI (wI (wI (wI X r 8 (nI j)) (o + (75 + 2 * n')) m.length (nI j)) (o + (74 + 2 * n')) 3 (nI (m.length + 1))) a k = mI C a k := fun a k h1 h2 h3 => by rw [wI_o h3, wI_o h2, wI_o (by omega), ex a k (by omega)]
  refine ⟨fun g' hg' => ?_, ?_, fun p' hp' => ?_⟩
  · have hg' : g' < A.length := hg'
    rw [ag _ _ (by omega) (by omega) (by omega)]
    exact i1 g' hg'
  · show (ms ++ [m ++ [j]]).length = P.length
    rw [List.length_append]; show ms.length + 1 = _; omega
  · have hp' : p' < P.length := hp'
    show mI _ _ 3 = nI ((ms ++ [m ++ [j]]).getD p' []).length ∧ ((ms ++ [m ++ [j]]).getD p' []).length ≤ 8 ∧ ∀ k, k < ((ms ++ [m ++ [j]]).getD p' []).length → mI _ _ k = nI (((ms ++ [m ++ [j]]).getD p' []).getD k 0) ∧ ((ms ++ [m ++ [j]]).getD p' []).getD k 0 < 8
    by_cases z : p' = n'
    · have e0 : (ms ++ [m ++ [j]]).getD p' [] = m ++ [j] := by
        rw [z, hn]; exact getD_r
      have e1 : (m ++ [j]).length = m.length + 1 := List.length_append
      rw [e0, e1]
      refine ⟨by rw [z, wI_e], by omega, fun k hk => ?_⟩
      by_cases y : k = m.length
      · rw [y, getN_r, z, wI_o (.inl (by omega)), wI_e]
        exact ⟨rfl, by omega⟩
      · rw [getN_l (by omega), z, ag _ _ (by omega) (by omega) (by omega)]
        exact u3 k (by omega)
    · obtain ⟨w1, w2, w3⟩ := i3 p' (by omega)
      rw [getD_l (show p' < ms.length by omega)] at w1 w2 w3 ⊢
      refine ⟨by rw [ag _ _ (by omega) (by omega) (by omega)]; exact w1, w2, fun k hk => ?_⟩
      rw [ag _ _ (by omega) (by omega) (by omega)]
      exact w3 k hk
/-- one event -/
theorem wkI_s (W : CWd Z g ps vs K r p o M0) {pre : List (Nat × Nat)} {k : Nat} {q q1 : Nat × Nat × Nat × Nat} {C D : gMem} (CC : CI r o M0 C) (R : RAp Z vs r o 0 7 pre k q C D) {c i : Nat} (hi : tkC c = true → i ≤ K ∧ g i = kdC c) (hvs : ∀ i, vs i < 2 ^ 62) (hA : aA c q = some q1) {s : List Nat × List Nat × List Nat × List (List Nat) × Nat} (e1 : (tks 1 pre).map vs = s.1) (e2 : (tks 2 pre).map vs = s.2.1) (e3 : (tks 3 pre).map vs = s.2.2.1) (hc : wkC s (c, vs i)) (I : wkI o s C) : wkI o (wkS s (c, vs i)) (stp2 Z r p o (c, i) C) := by
  obtain ⟨hp, ho⟩ := W_ho W
  have l1 : s.1.length = (tks 1 pre).length := by rw [← e1, List.length_map]
  have l3 : s.2.2.1.length = (tks 3 pre).length := by rw [← e3, List.length_map]
  have m8 : (tks 1 pre).length ≤ 8 := R.2.1.1.1.2.1
  have m6 : (tks 3 pre).length ≤ 6 := R.2.2.2.2.1.1.2.2.2.1
  obtain ⟨h51, h52, h53, h54, h55, h57, h58, h59, h1000, hf, hgn⟩ := hc
  obtain ⟨A, B, P, ms, n⟩ := s
  simp only at e1 e2 e3 l1 l3 h51 h53 h55 hf
  by_cases c51 : c = 51
  · subst c51
    obtain ⟨y1, y2⟩ := hi (by decide)
    obtain ⟨z1, z2⟩ := h51 rfl
    have := wkI_51 (A := A) (B := B) (P := P) (ms := ms) (n := n) (x := vs i) W CC R y1 y2 (hvs i) (by rw [lkV_map, e1]; exact z1) (by omega) l1 (by omega) I
    exact this
  by_cases c53 : c = 53
  · subst c53
    obtain ⟨y1, y2⟩ := hi (by decide)
    obtain ⟨z1, z2⟩ := h53 rfl
    have := wkI_53 (A := A) (B := B) (P := P) (ms := ms) (n := n) (x := vs i) W CC R y1 y2 (hvs i) (by rw [lkV_map, e3]; exact z1) (by omega) (by omega) l3 I
    exact this
  by_cases c55 : c = 55
  · subst c55
    obtain ⟨y1, y2⟩ := hi (by decide)
    have hA : (if q.1 = 1 then some q else none) = some q1 := hA
    have z : q.1 = 1 := by
      by_cases z : q.1 = 1
      · exact z
      · rw [if_neg z] at hA; cases hA
    have := wkI_55 (A := A) (B := B) (P := P) (ms := ms) (n := n) W CC R y1 y2 (h55 rfl) z l1 (by omega) I
    exact this
  by_cases c62 : c = 62
  · subst c62
    obtain ⟨y1, y2⟩ := hi (by decide)
    obtain ⟨j, j1, j2⟩ := hf (.inr (.inl rfl))
    obtain ⟨ms', m, rfl, j3, j4⟩ := j2 rfl
    have := wkI_62 W CC R y1 y2 (hvs i) (by rw [lkV_map, e2]; exact j1) (by omega) l3 j3 j4 I
    show wkI o (A, B, P, apL (ms' ++ [m]) ((lkV (vs i) B 0).getD 0), n) _
    rw [j1, apL_e]
    exact this
  have S := SF_n (CI_at (k := i) ho CC).2.2.2.2
  refine wkI_fr (s := (A, B, P, ms, n)) (C := C) (if_neg c51) (if_neg c53) ((if_neg c53).trans (if_neg c62)) (by show A.length ≤ 8; omega) (by show P.length ≤ 6; omega) (fun a k h => ?_) I
  have h2 := st_mc (Z := Z) (r := r) (p := p) (i := i) (M := at' r i C) ho h ⟨c51, c53, c55, c62⟩ S.1 S.2.1 S.2.2.1 S.2.2.2
  refine h2.trans (wI_o ?_)
  unfold mcl at h
  omega
end WKI
