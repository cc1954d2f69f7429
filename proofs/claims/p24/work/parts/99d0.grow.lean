/-! ## Pure: fish of a ground as numbers; growing -/
def smF (a : Nat → Nat) : Nat := a 1 + a 2 + a 3 + a 4 + a 5
/-- the row f holds the numbers a, each at most 99 -/
def RWn (f : Nat → Int32) (a : Nat → Nat) : Prop := ∀ s, 1 ≤ s → s ≤ 5 → f s = nI (a s) ∧ a s ≤ 99
theorem sum5_n {f : Nat → Int32} {a : Nat → Nat} (h : RWn f a) : sum5 f 5 = nI (smF a) := by
  have e1 := (h 1 (by decide) (by decide)).1
  have e2 := (h 2 (by decide) (by decide)).1
  have e3 := (h 3 (by decide) (by decide)).1
  have e4 := (h 4 (by decide) (by decide)).1
  have e5 := (h 5 (by decide) (by decide)).1
  show ((((0 + f 1) + f 2) + f 3) + f 4) + f 5 = _
  rw [e1, e2, e3, e4, e5, show (0 : Int32) = nI 0 from rfl, nI_add, nI_add, nI_add, nI_add, nI_add]
  unfold smF
  rw [Nat.zero_add]
theorem RWn_ex {f : Nat → Int32} (h : ∀ s, 1 ≤ s → s ≤ 5 → ∃ n, n ≤ 99 ∧ f s = nI n) : ∃ a, RWn f a := ⟨fun s => (f s).toNatClampNeg, fun s h1 h2 => by
    obtain ⟨n, n1, n2⟩ := h s h1 h2
    show f s = nI (f s).toNatClampNeg ∧ (f s).toNatClampNeg ≤ 99
    rw [n2, nI_clamp (by omega)]
    exact ⟨rfl, n1⟩⟩
theorem smF_5 {a b : Nat → Nat} (h : ∀ s, 1 ≤ s → s ≤ 5 → a s ≤ b s) : smF a ≤ smF b := by
  have h1 := h 1 (by decide) (by decide)
  have h2 := h 2 (by decide) (by decide)
  have h3 := h 3 (by decide) (by decide)
  have h4 := h 4 (by decide) (by decide)
  have h5 := h 5 (by decide) (by decide)
  unfold smF
  omega
theorem smF_b {f : Nat → Int32} {a : Nat → Nat} (h : RWn f a) : smF a ≤ 495 := by
  have h1 := (h 1 (by decide) (by decide)).2
  have h2 := (h 2 (by decide) (by decide)).2
  have h3 := (h 3 (by decide) (by decide)).2
  have h4 := (h 4 (by decide) (by decide)).2
  have h5 := (h 5 (by decide) (by decide)).2
  unfold smF
  omega
def g1N (a : Nat → Nat) (j : Nat) : Nat → Nat := fun s => if s = j + 1 then min (a (j + 1) + a j / 5) 99 else if s = j then a j - a j / 5 else a s
theorem gr1_n {f : Nat → Int32} {a : Nat → Nat} {j : Nat} (h : RWn f a) (h1 : 1 ≤ j) (h2 : j ≤ 4) : RWn (gr1 f j) (g1N a j) := by
  intro s s1 s2
  obtain ⟨ej, bj⟩ := h j h1 (by omega)
  obtain ⟨ek, bk⟩ := h (j + 1) (by omega) (by omega)
  have ed : f j / 5 = nI (a j / 5) := by rw [ej]; exact nI_div (b := 5) (by omega) (by decide)
  have hd : a j / 5 ≤ a j := Nat.div_le_self _ _
  unfold gr1 g1N
  by_cases c1 : s = j + 1
  · rw [c1, if_pos rfl, up1_e, ek, ed, nI_add, show (99 : Int32) = nI 99 from rfl, imin_nI (by omega) (by decide)]
    exact ⟨rfl, Nat.min_le_right _ _⟩
  · rw [if_neg c1, up1_o c1]
    by_cases c2 : s = j
    · rw [c2, if_pos rfl, up1_e, ej, show nI (a j) / 5 = nI (a j / 5) from nI_div (b := 5) (by omega) (by decide), nI_sub hd]
      exact ⟨rfl, by omega⟩
    · rw [if_neg c2, up1_o c2]
      exact h s s1 s2
theorem g1N_s {a : Nat → Nat} {j : Nat} (h : ∀ s, 1 ≤ s → s ≤ 5 → a s ≤ 99) (h1 : 1 ≤ j) (h2 : j ≤ 4) : smF (g1N a j) ≤ smF a ∧ smF a ≤ smF (g1N a j) + 19 := by
  have b1 := h 1 (by decide) (by decide)
  have b2 := h 2 (by decide) (by decide)
  have b3 := h 3 (by decide) (by decide)
  have b4 := h 4 (by decide) (by decide)
  have b5 := h 5 (by decide) (by decide)
  have hj : j = 1 ∨ j = 2 ∨ j = 3 ∨ j = 4 := by omega
  have z2 : a (1 + 1) = a 2 := rfl
  have z3 : a (2 + 1) = a 3 := rfl
  have z4 : a (3 + 1) = a 4 := rfl
  have z5 : a (4 + 1) = a 5 := rfl
  unfold smF g1N
  rcases hj with rfl | rfl | rfl | rfl
  · rw [if_neg (by decide), if_pos (by decide), if_pos (by decide), if_neg (by decide), if_neg (by decide), if_neg (by decide), if_neg (by decide), if_neg (by decide), if_neg (by decide)]
    omega
  · rw [if_neg (by decide), if_neg (by decide), if_neg (by decide), if_pos (by decide), if_pos (by decide), if_neg (by decide), if_neg (by decide), if_neg (by decide), if_neg (by decide)]
    omega
  · rw [if_neg (by decide), if_neg (by decide), if_neg (by decide), if_neg (by decide), if_neg (by decide), if_pos (by decide), if_pos (by decide), if_neg (by decide), if_neg (by decide)]
    omega
  · rw [if_neg (by decide), if_neg (by decide), if_neg (by decide), if_neg (by decide), if_neg (by decide), if_neg (by decide), if_neg (by decide), if_pos (by decide), if_pos (by decide)]
    omega
theorem gro_n {f : Nat → Int32} {a : Nat → Nat} (h : RWn f a) : ∃ b, RWn (gro f) b ∧ smF b ≤ smF a + smF a / 6 ∧ smF a ≤ smF b + 99 := by
  have r1 := gr1_n (j := 4) h (by decide) (by decide)
  have r2 := gr1_n (j := 3) r1 (by decide) (by decide)
  have r3 := gr1_n (j := 2) r2 (by decide) (by decide)
  have r4 := gr1_n (j := 1) r3 (by decide) (by decide)
  obtain ⟨u1, v1⟩ := g1N_s (j := 4) (fun s s1 s2 => (h s s1 s2).2) (by decide) (by decide)
  obtain ⟨u2, v2⟩ := g1N_s (j := 3) (fun s s1 s2 => (r1 s s1 s2).2) (by decide) (by decide)
  obtain ⟨u3, v3⟩ := g1N_s (j := 2) (fun s s1 s2 => (r2 s s1 s2).2) (by decide) (by decide)
  obtain ⟨u4, v4⟩ := g1N_s (j := 1) (fun s s1 s2 => (r3 s s1 s2).2) (by decide) (by decide)
  have r4 : RWn (grN f 4) (g1N (g1N (g1N (g1N a 4) 3) 2) 1) := r4
  generalize g1N (g1N (g1N (g1N a 4) 3) 2) 1 = c at r4 u4 v4
  have hs := sum5_n r4
  have hb := smF_b r4
  obtain ⟨c1, d1⟩ := r4 1 (by decide) (by decide)
  refine ⟨fun s => if s = 1 then min (c 1 + smF c / 6) 99 else c s, fun s s1 s2 => ?_, ?_⟩
  · unfold gro
    by_cases e : s = 1
    · rw [e, up1_e, hs, c1, show nI (smF c) / 6 = nI (smF c / 6) from nI_div (b := 6) (by omega) (by decide), nI_add, show (99 : Int32) = nI 99 from rfl, imin_nI (by omega) (by decide)]
      show nI _ = nI (if 1 = 1 then _ else _) ∧ (if 1 = 1 then _ else _) ≤ 99
      rw [if_pos rfl]
      exact ⟨rfl, Nat.min_le_right _ _⟩
    · rw [up1_o e]
      show _ = nI (if s = 1 then _ else _) ∧ (if s = 1 then _ else _) ≤ 99
      rw [if_neg e]
      exact r4 s s1 s2
  · have e5 : smF (fun s => if s = 1 then min (c 1 + smF c / 6) 99 else c s) + c 1 = smF c + min (c 1 + smF c / 6) 99 := by
      show (if 1 = 1 then min (c 1 + smF c / 6) 99 else c 1) + (if 2 = 1 then min (c 1 + smF c / 6) 99 else c 2) + (if 3 = 1 then min (c 1 + smF c / 6) 99 else c 3) + (if 4 = 1 then min (c 1 + smF c / 6) 99 else c 4) + (if 5 = 1 then min (c 1 + smF c / 6) 99 else c 5) + c 1 = _
      rw [if_pos rfl, if_neg (by decide), if_neg (by decide), if_neg (by decide), if_neg (by decide)]
      have : smF c = c 1 + c 2 + c 3 + c 4 + c 5 := rfl
      omega
    generalize smF (fun s => if s = 1 then min (c 1 + smF c / 6) 99 else c s) = x at e5
    omega
/-- sums over what a row without repeats names -/
theorem smN_inj {m : Nat → Nat} {F : Nat} : ∀ (n : Nat) (c : Nat → Nat), (∀ i, i < n → m i < F) → (∀ i j, i < j → j < n → m i ≠ m j) → smN (fun i => c (m i)) n ≤ smN c F
  | 0, _, _, _ => Nat.zero_le _
  | n + 1, c, h1, h2 => by
    have ih := smN_inj n (fun i => if i = m n then 0 else c i) (fun i hi => h1 i (by omega)) (fun i j hi hj => h2 i j hi (by omega))
    have e1 : smN (fun i => (fun i => if i = m n then 0 else c i) (m i)) n = smN (fun i => c (m i)) n := smN_c n fun i hi => if_neg (h2 i n hi (by omega))
    have e2 := smN_set (c := c) (f := m n) (v := 0) F (h1 n (by omega))
    rw [e1] at ih
    rw [smN]
    omega
theorem smN_k (k : Nat) : ∀ n, smN (fun _ => k) n = k * n
  | 0 => rfl
  | n + 1 => by rw [smN, smN_k k n, Nat.mul_succ]
theorem smN_sub {c : Nat → Nat} {k : Nat} : ∀ n, (∀ i, i < n → c i ≤ k) → smN (fun i => k - c i) n + smN c n = k * n
  | 0, _ => rfl
  | n + 1, h => by
    have ih := smN_sub (c := c) (k := k) n fun i hi => h i (by omega)
    have := h n (by omega)
    rw [smN, smN, Nat.mul_succ]
    omega
/-- each is named once: the same sum -/
theorem smN_perm {m c : Nat → Nat} {F k : Nat} (h1 : ∀ i, i < F → m i < F) (h2 : ∀ i j, i < j → j < F → m i ≠ m j) (hc : ∀ i, c i ≤ k) : smN (fun i => c (m i)) F = smN c F := by
  have a := smN_inj F c h1 h2
  have b := smN_inj F (fun i => k - c i) h1 h2
  have d := smN_sub (c := fun i => c (m i)) (k := k) F fun i _ => hc (m i)
  have e := smN_sub (c := c) (k := k) F fun i _ => hc i
  have b : smN (fun i => k - c (m i)) F ≤ smN (fun i => k - c i) F := b
  have d : smN (fun i => k - c (m i)) F + smN (fun i => c (m i)) F = k * F := d
  omega
/-- no lot is drawn twice -/
theorem lt_inj {n i j : Nat} {x : Int32} (hn : n < 2 ^ 31) (hi : i < j) (hj : j < n) : ltA n x i ≠ ltA n x j := by
  intro e
  have ch : ∀ v, ∃ k, v < n → k < n ∧ k ≠ j ∧ ltA n x k = v := fun v => by
    by_cases hv : v < n
    · obtain ⟨k, k1, k2⟩ := lt_sur (x := x) hn hv
      by_cases c : k = j
      · exact ⟨i, fun _ => ⟨by omega, by omega, by rw [e, ← c]; exact k2⟩⟩
      · exact ⟨k, fun _ => ⟨k1, c, k2⟩⟩
    · exact ⟨0, fun z => absurd z hv⟩
  have ch2 : ∃ w : Nat → Nat, ∀ v, v < n → w v < n ∧ w v ≠ j ∧ ltA n x (w v) = v := ⟨fun v => Classical.choose (ch v), fun v hv => Classical.choose_spec (ch v) hv⟩
  obtain ⟨w, hw⟩ := ch2
  have := pig (n - 1) n (fun v => if w v < j then w v else w v - 1) (fun v hv => by
    obtain ⟨w1, w2, w3⟩ := hw v hv
    show (if w v < j then w v else w v - 1) < n - 1
    by_cases c : w v < j
    · rw [if_pos c]; omega
    · rw [if_neg c]; omega) (fun u v huv hv => by
    obtain ⟨w1, w2, w3⟩ := hw v hv
    obtain ⟨u1, u2, u3⟩ := hw u (by omega)
    have ne : w u ≠ w v := fun z => by
      rw [z] at u3
      omega
    show (if w u < j then w u else w u - 1) ≠ (if w v < j then w v else w v - 1)
    by_cases c : w u < j
    · rw [if_pos c]
      by_cases d : w v < j
      · rw [if_pos d]; exact ne
      · rw [if_neg d]; omega
    · rw [if_neg c]
      by_cases d : w v < j
      · rw [if_pos d]; omega
      · rw [if_neg d]; omega)
  omega
