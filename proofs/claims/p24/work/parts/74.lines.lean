/-! ## Pure: the lines of a text: facts, and enough fuel -/
theorem hC_z {c h : Nat} (hc : 50 ≤ c) (h1 : c ≠ 61 ∧ c ≠ 63 ∧ c ≠ 64 ∧ c ≠ 65 ∧ c ≠ 66) : hC c h = some h := by
  unfold hC
  rw [if_neg (by omega), if_neg (by omega), if_neg (by omega), if_neg (by omega), if_neg (by omega), if_neg (by omega), if_pos hc]
theorem tkC_z {c : Nat} (hc : 50 ≤ c) (h1 : c ≠ 64 ∧ c ≠ 65 ∧ c ≠ 66) : tkC c = true := by
  obtain ⟨a, b, d⟩ := h1
  unfold tkC
  simp [hc, a, b, d]
theorem rkP_7 (j : Nat) : rkP j ≤ 7 := by unfold rkP; (repeat' split) <;> omega
def NN (g : Nat → Nat) (K k z : Nat) (x : Option (Option (List (Nat × Nat)) × Nat)) : Prop := FP g K k z 0 0 0 x ∧ x ≠ none
theorem NN_sq {g : Nat → Nat} {K k z z1 z2 : Nat} {x : Option (Option (List (Nat × Nat)) × Nat)} {f : Nat → Option (Option (List (Nat × Nat)) × Nat)} (h1 : NN g K k z1 x) (h2 : ∀ e, k + z1 ≤ e → e ≤ K → NN g K e z2 (f e)) (hz : z ≤ z1 + z2) : NN g K k z (sq x f) :=
  ⟨FP_sq h1.1 (fun e a b => (h2 e a b).1) hz, sq_ne h1.2 (fun es e he => (h2 e (FP_e h1.1 he).2 (FP_e h1.1 he).1).2)⟩
theorem NN_tk {g : Nat → Nat} {K k a : Nat} (H : ∀ i, i ≤ K → g i < 42 → i + 1 ≤ K) (hk : k ≤ K) (ha : a < 42) : NN g K k 1 (tk1 g a k) := ⟨FP_tk H hk ha, tk1_ne⟩
theorem NN_nm {g : Nat → Nat} {K k c : Nat} (H : ∀ i, i ≤ K → g i < 42 → i + 1 ≤ K) (hk : k ≤ K) (hc : c = 51 ∨ c = 52 ∨ c = 53 ∨ (60 ≤ c ∧ c ≤ 63)) : NN g K k 1 (nm g c k) := by
  refine ⟨FP_nm H hk (by unfold kdC; rw [if_neg (by omega), if_neg (by omega)]) (tkC_z (by omega) (by omega)) (fun h h0 => ?_), nm_ne⟩
  by_cases c1 : c = 61 ∨ c = 63
  · have := h0 rfl
    subst this
    unfold hC
    rw [if_neg (by omega), if_neg (by omega), if_neg (by omega), if_pos c1, if_pos rfl]
  · exact hC_z (by omega) (by omega)
theorem NN_nb {g : Nat → Nat} {K k c : Nat} (H : ∀ i, i ≤ K → g i < 42 → i + 1 ≤ K) (hk : k ≤ K) (hc : (55 ≤ c ∧ c ≤ 59) ∨ 1000 ≤ c) : NN g K k 1 (nb g c k) :=
  ⟨FP_nb H hk (by unfold kdC; rw [if_neg (by omega), if_pos (by omega)]) (tkC_z (by omega) (by omega)) (fun h _ => hC_z (by omega) (by omega)), nb_ne⟩
theorem NN_ft {g : Nat → Nat} {K k z e : Nat} (h : e ≤ K) : NN g K k z (ft e) := ⟨h, ft_ne⟩
theorem NN_nil {g : Nat → Nat} {K k : Nat} (h : k ≤ K) : NN g K k 0 (some (some [], k)) := ⟨FP_nil h, fun c => by cases c⟩
theorem NN_dn {g : Nat → Nat} {K k k1 z z1 : Nat} {x : Option (Option (List (Nat × Nat)) × Nat)} (h : NN g K k1 z1 x) (hk : k ≤ k1) (hz : k + z ≤ k1 + z1) : NN g K k z x := ⟨FP_dn h.1 hk hz, h.2⟩
theorem NN_szL {g : Nat → Nat} {K : Nat} (H : ∀ i, i ≤ K → g i < 42 → i + 1 ≤ K) : ∀ m s k, k ≤ K → K + 1 ≤ m + k → NN g K k 0 (szL g m s k)
  | 0, s, k, hk, hm => by omega
  | m + 1, s, k, hk, hm => by
    rw [szL]
    by_cases c : g k = 30
    · rw [if_pos c]
      have e1 : NN g K k 2 (nb g (1000 + s) (k + 1)) := NN_dn (NN_nb H (H k hk (by omega)) (by omega)) (by omega) (by omega)
      exact NN_sq e1 (fun e a b => NN_szL H m (s + 1) e b (by omega)) (by omega)
    · rw [if_neg c]; exact NN_nil hk
theorem NN_mbL {g : Nat → Nat} {K : Nat} (H : ∀ i, i ≤ K → g i < 42 → i + 1 ≤ K) : ∀ m k, k ≤ K → K + 1 ≤ m + k → NN g K k 0 (mbL g m k)
  | 0, k, hk, hm => by omega
  | m + 1, k, hk, hm => by
    rw [mbL]
    by_cases c : g k = 30
    · rw [if_pos c]
      have e1 : NN g K k 2 (nm g 62 (k + 1)) := NN_dn (NN_nm H (H k hk (by omega)) (by omega)) (by omega) (by omega)
      exact NN_sq e1 (fun e a b => NN_mbL H m e b (by omega)) (by omega)
    · rw [if_neg c]; exact NN_nil hk
theorem NN_lnG {g : Nat → Nat} {K k : Nat} (H : ∀ i, i ≤ K → g i < 42 → i + 1 ≤ K) (hK : K ≤ 400) (hk : k ≤ K) : NN g K k 1 (lnG g k) := by
  refine NN_sq (NN_tk H hk (by decide)) (fun k _ hk => ?_) (z2 := 0) (by omega)
  refine NN_sq (NN_nm H hk (by decide)) (fun k _ hk => ?_) (z2 := 0) (by omega)
  refine NN_sq (NN_tk H hk (by decide)) (fun k _ hk => ?_) (z2 := 0) (by omega)
  refine NN_sq (NN_nb H hk (by decide)) (fun k _ hk => ?_) (z2 := 0) (by omega)
  refine NN_sq (NN_tk H hk (by decide)) (fun k _ hk => ?_) (z2 := 0) (by omega)
  refine NN_sq (NN_nb H hk (by decide)) (fun k _ hk => ?_) (z2 := 0) (by omega)
  exact NN_szL H 401 2 k hk (by omega)
theorem NN_lnF {g : Nat → Nat} {K k : Nat} (H : ∀ i, i ≤ K → g i < 42 → i + 1 ≤ K) (hk : k ≤ K) : NN g K k 1 (lnF g k) := by
  refine NN_sq (NN_tk H hk (by decide)) (fun k _ hk => ?_) (z2 := 0) (by omega)
  refine NN_sq (NN_nm H hk (by decide)) (fun k _ hk => ?_) (z2 := 0) (by omega)
  refine NN_sq (NN_tk H hk (by decide)) (fun k _ hk => ?_) (z2 := 0) (by omega)
  refine NN_sq (NN_nb H hk (by decide)) (fun k _ hk => ?_) (z2 := 0) (by omega)
  refine NN_sq (NN_tk H hk (by decide)) (fun k _ hk => ?_) (z2 := 0) (by omega)
  refine NN_sq (NN_nb H hk (by decide)) (fun k _ hk => ?_) (z2 := 0) (by omega)
  refine NN_sq (NN_tk H hk (by decide)) (fun k _ hk => ?_) (z2 := 0) (by omega)
  exact NN_dn (NN_nb H hk (by decide)) (Nat.le_refl _) (by omega)
theorem NN_Px {g : Nat → Nat} {K k j : Nat} {c i : Nat} (H : ∀ i, i ≤ K → g i < 42 → i + 1 ≤ K) (hK : K ≤ 400) (hk : k ≤ K) (hj : j ≠ 3) (hc : c = 64 ∨ c = 65) : NN g K k 0 (sq (Px g 64 j k 0) (em (c, i))) := by
  refine ⟨FP_sq (FP_w ((FP_Px H 64 j k 0 hk).1 hj)) (fun e _ he => FP_op (by rcases hc with h | h <;> subst h <;> decide) he (fun h h0 => ?_)) (z2 := 0) (by omega), sq_ne (Px_ne H hK 64 j k 0 hk (by omega) (by have := rkP_7 j; omega)) (fun _ _ _ => em_ne)⟩
  have := h0 rfl
  subst this
  rcases hc with h | h <;> subst h <;> rfl
theorem NN_lnO {g : Nat → Nat} {K k : Nat} (H : ∀ i, i ≤ K → g i < 42 → i + 1 ≤ K) (hK : K ≤ 400) (hk : k ≤ K) : NN g K k 1 (lnO g k) := by
  have e1 : NN g K k 1 (if g k = 7 then em (54, k) (k + 1) else ft k) := by
    by_cases c : g k = 7
    · rw [if_pos c]; exact ⟨FP_ev H hk c (by decide) (by decide) (fun h _ => hC_z (by decide) (by decide)), em_ne⟩
    · rw [if_neg c]; exact NN_ft hk
  refine NN_sq e1 (fun k _ hk => ?_) (z2 := 0) (by omega)
  refine NN_sq (NN_nm H hk (by decide)) (fun k _ hk => ?_) (z2 := 0) (by omega)
  refine NN_sq (NN_tk H hk (by decide)) (fun k _ hk => ?_) (z2 := 0) (by omega)
  refine NN_sq (NN_nm H hk (by decide)) (fun k _ hk => ?_) (z2 := 0) (by omega)
  by_cases c : g k = 9
  · rw [if_pos c]
    exact NN_dn (NN_Px H hK (H k hk (by omega)) (by decide) (by decide)) (by omega) (by omega)
  · rw [if_neg c]
    exact ⟨FP_op (by decide) hk (fun h h0 => by have := h0 rfl; subst this; rfl), em_ne⟩
theorem NN_lnP {g : Nat → Nat} {K k : Nat} (H : ∀ i, i ≤ K → g i < 42 → i + 1 ≤ K) (hK : K ≤ 400) (hk : k ≤ K) : NN g K k 1 (lnP g k) := by
  refine NN_sq (NN_tk H hk (by decide)) (fun k _ hk => ?_) (z2 := 0) (by omega)
  refine NN_sq (NN_nm H hk (by decide)) (fun k _ hk => ?_) (z2 := 0) (by omega)
  refine NN_sq (NN_tk H hk (by decide)) (fun k _ hk => ?_) (z2 := 0) (by omega)
  refine NN_sq (NN_nm H hk (by decide)) (fun k _ hk => ?_) (z2 := 0) (by omega)
  refine NN_sq (NN_mbL H 401 k hk (by omega)) (fun k _ hk => ?_) (z2 := 0) (by omega)
  by_cases c : g k = 12
  · rw [if_pos c]
    exact NN_dn (NN_nil (H k hk (by omega))) (by omega) (by omega)
  · rw [if_neg c]
    refine NN_sq (NN_tk H hk (by decide)) (fun k _ hk => ?_) (z2 := 0) (by omega)
    refine NN_sq (NN_nm H hk (by decide)) (fun k _ hk => ?_) (z2 := 0) (by omega)
    refine NN_sq (NN_tk H hk (by decide)) (fun k _ hk => ?_) (z2 := 0) (by omega)
    exact NN_Px H hK hk (by decide) (by decide)
theorem NN_ln1 {g : Nat → Nat} {K k : Nat} (H : ∀ i, i ≤ K → g i < 42 → i + 1 ≤ K) (hK : K ≤ 400) (hk : k ≤ K) : NN g K k 1 (ln1 g k) := by
  unfold ln1
  by_cases c0 : g k = 0
  · rw [if_pos c0]; exact NN_lnG H hK hk
  rw [if_neg c0]
  by_cases c1 : g k = 3
  · rw [if_pos c1]; exact NN_lnF H hk
  rw [if_neg c1]
  by_cases c2 : g k = 7
  · rw [if_pos c2]; exact NN_lnO H hK hk
  rw [if_neg c2]
  by_cases c3 : g k = 10
  · rw [if_pos c3]; exact NN_lnP H hK hk
  rw [if_neg c3]; exact NN_ft hk
theorem NN_txL {g : Nat → Nat} {K : Nat} (H : ∀ i, i ≤ K → g i < 42 → i + 1 ≤ K) (hK : K ≤ 400) : ∀ m k, k ≤ K → K + 1 ≤ m + k → NN g K k 0 (txL g m k)
  | 0, k, hk, hm => by omega
  | m + 1, k, hk, hm => by
    rw [txL]
    by_cases c : g k = 42
    · rw [if_pos c]; exact NN_nil hk
    · rw [if_neg c]
      refine NN_sq (NN_ln1 H hK hk) (fun e a b => ?_) (z2 := 0) (by omega)
      refine NN_sq (NN_tk H b (by decide)) (fun e1 a1 b1 => ?_) (z2 := 0) (by omega)
      exact NN_txL H hK m e1 b1 (by omega)

