/-! ## Pure: an event in the class's memory: what is found, what is noted -/
theorem lN_tI {a : Nat} (ha : a < 2 ^ 62) : (lN a).toInt = a := Int64.toInt_ofNat_of_lt (by omega)
theorem lN_nj {a b : Nat} (ha : a < 2 ^ 62) (hb : b < 2 ^ 62) (h : lN a = lN b) : a = b := by
  have h1 := lN_tI ha
  rw [h, lN_tI hb] at h1
  omega
theorem lN_32 (v : Nat) : Int64.toInt32 (lN v) = nI v := Int64.toInt32_ofNat'
/-- the names of L stand in the row x -/
def NL (vs : Nat → Nat) (x : Nat) (L : List Nat) (M : gMem) : Prop := mI M x 1 = nI L.length ∧ L.length ≤ 8 ∧ (∀ j (h : j < L.length), mJ M (x + 1) j = lN (vs L[j])) ∧ ∀ i ∈ L, vs i < 2 ^ 62
theorem lkL_lt {vs : Nat → Nat} {v : Nat} : ∀ {L : List Nat} {c k : Nat}, lkL vs v L c = some k → c ≤ k ∧ k < c + L.length
  | [], _, _, h => by cases h
  | i :: r, c, k, h => by
    rw [lkL] at h
    rw [List.length_cons]
    by_cases e : vs i = v
    · rw [if_pos e] at h; cases h; omega
    · rw [if_neg e] at h; have := lkL_lt h; omega
theorem fndN_L {vs : Nat → Nat} {v : Nat} {row : Nat → Int64} (hv : v < 2 ^ 62) : ∀ (L : List Nat) (c : Nat), (∀ i ∈ L, vs i < 2 ^ 62) → (∀ j (h : j < L.length), row (c + j) = lN (vs L[j])) → fndN (fun i => decide (row i = lN v)) L.length c = lkL vs v L c
  | [], _, _, _ => rfl
  | i :: r, c, hb, hr => by
    have h0 := hr 0 (by rw [List.length_cons]; omega)
    rw [Nat.add_zero] at h0
    have h0 : row c = lN (vs i) := h0
    have hi := hb i List.mem_cons_self
    have ih := fndN_L (row := row) hv r (c + 1) (fun y hy => hb y (List.mem_cons_of_mem _ hy)) (fun j hj => by
      have := hr (j + 1) (by rw [List.length_cons]; omega)
      rw [show c + 1 + j = c + (j + 1) by omega, this]
      rfl)
    rw [List.length_cons, fndN, lkL, ih]
    by_cases e : vs i = v
    · rw [if_pos e, if_pos (by rw [h0, e]; exact decide_eq_true rfl)]
    · rw [if_neg e, if_neg (fun z => e (lN_nj hi hv (h0 ▸ of_decide_eq_true z)))]
theorem fnd_L {vs : Nat → Nat} {x v : Nat} {L : List Nat} {M : gMem} (N : NL vs x L M) (hv : v < 2 ^ 62) : fnd M x (lN v) = tdV (lkL vs v L 0) := by
  obtain ⟨n1, n2, n3, n4⟩ := N
  unfold fnd
  rw [n1, nI_clamp (by omega), fndN_L (row := mJ M (x + 1)) hv L 0 n4 (fun j h => by rw [Nat.zero_add]; exact n3 j h)]
  rfl
/-- the first error of all stands -/
def ER (r : Nat) (e i : Nat) (ps : Nat → Nat) (M : gMem) : Prop := mI M r 7 = nI e ∧ mI M r 0 = nI (ps i)
theorem nt_0 {r p i : Nat} {e : Int32} {M : gMem} (h : mI M r 7 = 0) : ntM r p e i M = wI (wI M r 7 e) r 0 (mI M (p + 3) i) := if_pos h
theorem nt_1 {r p i : Nat} {e : Int32} {M : gMem} (h : mI M r 7 ≠ 0) : ntM r p e i M = M := if_neg h
/-- nothing of the error is touched -/
def kpE (r : Nat) (M M1 : gMem) : Prop := mI M r 7 ≠ 0 → mI M1 r 7 = mI M r 7 ∧ mI M1 r 0 = mI M r 0
theorem kp_r {r : Nat} {M : gMem} : kpE r M M := fun _ => ⟨rfl, rfl⟩
theorem kp_t {r : Nat} {A B C : gMem} (h1 : kpE r A B) (h2 : kpE r B C) : kpE r A C := fun h => by
  obtain ⟨a, b⟩ := h1 h
  obtain ⟨c, d⟩ := h2 (by rw [a]; exact h)
  exact ⟨c.trans a, d.trans b⟩
theorem kp_w {r a k : Nat} {v : Int32} {M : gMem} (h : a ≠ r ∨ (k ≠ 7 ∧ k ≠ 0)) : kpE r M (wI M a k v) := fun _ => ⟨wI_o (by omega), wI_o (by omega)⟩
theorem kp_n {r p i : Nat} {e : Int32} {M : gMem} : kpE r M (ntM r p e i M) := fun h => by rw [nt_1 h]; exact ⟨rfl, rfl⟩
theorem kp_k {r p x i : Nat} {M : gMem} : kpE r M (kwM r p x i M) := by
  unfold kwM
  split
  · exact kp_w (.inr (by decide))
  · exact kp_t (kp_t (kp_w (.inr (by decide))) kp_n) (kp_w (.inr (by decide)))
theorem kp_b {r p i : Nat} {lo hi : Int32} {M : gMem} : kpE r M (nbM r p lo hi i M) := by
  unfold nbM
  split
  · exact kp_t (kp_w (.inr (by decide))) kp_n
  · exact kp_w (.inr (by decide))
theorem kp_nw {r p x i : Nat} {M : gMem} (hx : isX r x) : kpE r M (nwM r p x i M) := by
  have : x ≠ r := by unfold isX at hx; omega
  unfold nwM
  split
  · split
    · exact fun _ => ⟨wI_o (.inl (by omega)), wI_o (.inl (by omega))⟩
    · exact kp_n
  · exact kp_n
theorem kp_ad {Z : Nat → Nat} {r o c : Nat} {v : Int32} {M : gMem} (ho : o + 86 ≤ r) : kpE r M (adM Z o c v M) := fun _ => ⟨ad_8 ho, ad_8 ho⟩
theorem kp_cp {S : Nat → Nat → Bool} {r a b : Nat} {M : gMem} (h : a + 1 < r) : kpE r M (cpS S a b M) := fun _ => by
  have e : ∀ k, mI (cpS S a b M) r k = mI M r k := fun k => by
    show (if (r = a ∨ r = a + 1) ∧ S (r - a) k = true then mI M (b + (r - a)) k else mI M r k) = _
    rw [if_neg (by omega)]
  exact ⟨e 7, e 0⟩
theorem kp_pa {r a : Nat} {v : Int32} {M : gMem} (h : a + 1 < r) : kpE r M (paM a v M) := by
  unfold paM
  split
  · exact kp_t (kp_w (.inl (by omega))) (kp_w (.inl (by omega)))
  · exact kp_r
theorem kp_s {Z : Nat → Nat} {r p o c i : Nat} {M : gMem} (ho : o + 86 ≤ r) (n2 : lsn M o 2 < 8) (n3 : lsn M o 3 < 8) (n4 : lsn M o 4 < 24) (n5 : lsn M o 5 < 6) : kpE r M (stp1 Z r p o c i M) := by
  have wi : ∀ M1 d k v, kpE r M M1 → d < 86 → kpE r M (wI M1 (o + d) k v) := fun M1 d k v C1 h2 => kp_t C1 (kp_w (.inl (by omega)))
  have cg : ∀ M1, kpE r M M1 → kpE r M (ngM o M1) ∧ kpE r M (nfM o M1) ∧ kpE r M (npM o M1) ∧ kpE r M (noM o M1) := fun M1 C1 => by
    refine ⟨kp_t C1 ?_, kp_t C1 ?_, kp_t C1 ?_, kp_t C1 ?_⟩
    · exact kp_t (kp_w (.inl (by omega))) (kp_cp (by omega))
    · exact kp_t (kp_w (.inl (by omega))) (kp_cp (by omega))
    · exact kp_t (kp_w (.inl (by omega))) (kp_cp (by omega))
    · exact kp_w (.inl (by omega))
  unfold stp1
  by_cases h : c = 16 ∨ c = 17 ∨ c = 4 ∨ c = 19
  · rw [if_pos h]; exact kp_t kp_k (kp_ad ho)
  rw [if_neg h]; clear h
  by_cases h : c = 2 ∨ c = 18
  · rw [if_pos h]; exact kp_t kp_k (kp_ad ho)
  rw [if_neg h]; clear h
  by_cases h : c = 41
  · rw [if_pos h]; exact kp_t kp_b (kp_ad ho)
  rw [if_neg h]; clear h
  by_cases h : c = 15 ∨ c = 44 ∨ c = 23 ∨ c = 24
  · rw [if_pos h]; exact kp_ad ho
  rw [if_neg h]; clear h
  by_cases h : c < 45
  · rw [if_pos h]; exact kp_ad ho
  rw [if_neg h]; clear h
  by_cases h : c = 51
  · rw [if_pos h]; exact (cg _ (kp_nw (.inl rfl))).1
  rw [if_neg h]; clear h
  by_cases h : c = 52
  · rw [if_pos h]; exact (cg _ (kp_nw (.inr (.inl rfl)))).2.1
  rw [if_neg h]; clear h
  by_cases h : c = 53
  · rw [if_pos h]; exact (cg _ (kp_nw (.inr (.inr rfl)))).2.2.1
  rw [if_neg h]; clear h
  by_cases h : c = 54
  · rw [if_pos h]
    refine (cg _ ?_).2.2.2
    split
    · exact kp_r
    · exact kp_n
  rw [if_neg h]; clear h
  by_cases h : c = 55
  · rw [if_pos h]; exact wi _ _ _ _ kp_b (by omega)
  rw [if_neg h]; clear h
  by_cases h : c = 57
  · rw [if_pos h]; exact wi _ _ _ _ (wi _ _ _ _ kp_b (by omega)) (by omega)
  rw [if_neg h]; clear h
  by_cases h : c = 58
  · rw [if_pos h]; exact wi _ _ _ _ kp_b (by omega)
  rw [if_neg h]; clear h
  by_cases h : c = 59
  · rw [if_pos h]; exact wi _ _ _ _ kp_b (by omega)
  rw [if_neg h]; clear h
  by_cases h : c = 60
  · rw [if_pos h]; exact wi _ _ _ _ kp_k (by omega)
  rw [if_neg h]; clear h
  by_cases h : c = 61
  · rw [if_pos h]; exact wi _ _ _ _ (wi _ _ _ _ kp_k (by omega)) (by omega)
  rw [if_neg h]; clear h
  by_cases h : c = 64 ∨ c = 66
  · rw [if_pos h]; exact wi _ _ _ _ kp_r (by omega)
  rw [if_neg h]; clear h
  by_cases h : c = 62
  · rw [if_pos h]
    refine kp_t (kp_t ?_ kp_k) (kp_pa (by omega))
    by_cases q : hsP M o (lsn M o 5) (fnd M (r + 3) (mJ M (p + 4) i))
    · rw [cif_t q]; exact kp_n
    · rw [cif_f q]; exact kp_r
  rw [if_neg h]; clear h
  by_cases h : c = 63
  · rw [if_pos h]; exact wi _ _ _ _ (wi _ _ _ _ kp_k (by omega)) (by omega)
  rw [if_neg h]; clear h
  by_cases h : c = 65
  · rw [if_pos h]; exact wi _ _ _ _ kp_r (by omega)
  rw [if_neg h]; clear h
  by_cases h : 1000 ≤ c
  · rw [if_pos h]
    split
    · exact wi _ _ _ _ kp_b (by omega)
    · exact kp_t kp_n kp_b
  rw [if_neg h]; exact kp_r
/-- an error once noted stays, whatever follows -/
theorem kp_rn {Z g ps vs : Nat → Nat} {K r p o : Nat} {M0 : gMem} (W : CWd Z g ps vs K r p o M0) : ∀ (a : List (Nat × Nat)) (M : gMem), CI r o M0 M → kpE r M (rnE Z r p o a M)
  | [], M, C => kp_r
  | e :: t, M, C => by
    have ho := (W_ho W).2
    have C1 := CI_at (k := e.2) ho C
    obtain ⟨n2, n3, n4, n5⟩ := SF_n C1.2.2.2.2
    exact kp_t (kp_t (kp_w (.inr (by decide))) (kp_s ho n2 n3 n4 n5)) (kp_rn W t _ (CI_s1 W C1))

