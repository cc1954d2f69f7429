/-! ## Pure: what was taken adds up, through a tide -/
def TKa (A : Nat → Nat → Int32) (F G : Nat) : Prop := (∀ g, g < G → A (18 + 2 * g) 2 = sumN (fun f => A (35 + 2 * f) g) F) ∧ ∀ f, f < F → A (34 + 2 * f) 8 = sumN (fun g => A (35 + 2 * f) g) G
theorem TK_eq {A A' : Nat → Nat → Int32} {F G : Nat} (hF : F ≤ 8) (hG : G ≤ 8) (h1 : ∀ g, g < 8 → A' (18 + 2 * g) 2 = A (18 + 2 * g) 2) (h2 : ∀ f, f < 8 → A' (34 + 2 * f) 8 = A (34 + 2 * f) 8) (h3 : ∀ f k, f < 8 → A' (35 + 2 * f) k = A (35 + 2 * f) k) (T : TKa A F G) : TKa A' F G := by
  refine ⟨fun g hg => ?_, fun f hf => ?_⟩
  · rw [h1 g (by omega), T.1 g hg]
    exact sumN_c F fun i hi => (h3 i g (by omega)).symm
  · rw [h2 f (by omega), T.2 f hf]
    exact sumN_c G fun i hi => (h3 f i (by omega)).symm
theorem sumN_up {f f' : Nat → Int32} {i : Nat} {v : Int32} (e : f' i = f i + v) (h : ∀ j, j ≠ i → f' j = f j) : ∀ n, i < n → sumN f' n = sumN f n + v
  | 0, hi => absurd hi (Nat.not_lt_zero _)
  | n + 1, hi => by
    rw [sumN, sumN]
    by_cases c : i = n
    · subst c
      rw [e, sumN_c i fun j hj => h j (by omega), Int32.add_assoc]
    · rw [sumN_up e h n (by omega), h n (fun z => c z.symm), Int32.add_assoc, Int32.add_assoc, Int32.add_comm v]
theorem TK_sail {A : Nat → Nat → Int32} {f g F G : Nat} (hF : F ≤ 8) (hG : G ≤ 8) (hf : f < F) (hg : g < G) (T : TKa A F G) : TKa (sailA A f g) F G := by
  obtain ⟨K, hK⟩ : ∃ K, K = nI (kpN (hlA A g f).1 (tornA A f g (34 + 2 * f) 1).toNatClampNeg 5) := ⟨_, rfl⟩
  have v1 : sailA A f g (18 + 2 * g) 2 = A (18 + 2 * g) 2 + K := by
    unfold sailA ldA
    rw [up2_ne (by omega), up2_eq, tornA_o (by omega) (by omega), hK]
  have v2 : sailA A f g (34 + 2 * f) 8 = A (34 + 2 * f) 8 + K := by
    unfold sailA ldA
    rw [up2_ne (by omega), up2_ne (by omega), up2_eq, tornA_o (by omega) (by omega), hK]
  have v3 : sailA A f g (35 + 2 * f) g = A (35 + 2 * f) g + K := by
    unfold sailA
    rw [up2_eq, hK]
  have o1 : ∀ g', g' ≠ g → sailA A f g (18 + 2 * g') 2 = A (18 + 2 * g') 2 := fun g' h => sailA_o (by omega) (by omega) (by omega) (by omega)
  have o2 : ∀ f', f' ≠ f → sailA A f g (34 + 2 * f') 8 = A (34 + 2 * f') 8 := fun f' h => by
    by_cases c : 34 + 2 * f' = 18 + 2 * g ∨ 34 + 2 * f' = 19 + 2 * g
    · omega
    · exact sailA_o (by omega) (by omega) (by omega) (by omega)
  have o3 : ∀ f' k, (f' ≠ f ∨ k ≠ g) → sailA A f g (35 + 2 * f') k = A (35 + 2 * f') k := fun f' k h => sailA_o (by omega) (by omega) (by omega) (by omega)
  refine ⟨fun g' hg' => ?_, fun f' hf' => ?_⟩
  · by_cases c : g' = g
    · subst c
      rw [v1, T.1 g' hg']
      exact (sumN_up (f := fun f => A (35 + 2 * f) g') (f' := fun f' => sailA A f g' (35 + 2 * f') g') (i := f) v3 (fun j hj => o3 j g' (.inl hj)) F hf).symm
    · rw [o1 g' c, T.1 g' hg']
      exact sumN_c F fun i hi => (o3 i g' (.inr c)).symm
  · by_cases c : f' = f
    · subst c
      rw [v2, T.2 f' hf']
      exact (sumN_up (f := fun k => A (35 + 2 * f') k) (f' := fun k => sailA A f' g (35 + 2 * f') k) (i := g) v3 (fun j hj => o3 f' j (.inr hj)) G hg).symm
    · rw [o2 f' c, T.2 f' hf']
      exact sumN_c G fun i hi => (o3 f' i (.inl c)).symm
theorem TK_fleet {pg : Nat → Nat} {len np ng F G : Nat} {lf : Nat → Nat} {A : Nat → Nat → Int32} (W : WS A F G np ng) (D : WD A F G) (T : TKa A F G) : ∀ n, (∀ i, i < n → lf i < F) → TKa (fleetA pg len np ng lf A n) F G
  | 0, _ => T
  | n + 1, h => by
    have ih := TK_fleet (pg := pg) (len := len) W D T n fun i hi => h i (by omega)
    obtain ⟨w1, w2⟩ := fleetA_W (pg := pg) (len := len) (lf := lf) W D n fun i hi => h i (by omega)
    have hF : F ≤ 8 := W.2.2.2.1
    have hG : G ≤ 8 := W.2.1
    have hl := h n (by omega)
    show TKa (goA pg len np ng (fleetA pg len np ng lf A n) (lf n)) F G
    unfold goA
    have W' := WS_c w1 W
    rcases fgo_v (pg := pg) (len := len) (f := lf n) W' ng 0 (by omega) with c | ⟨g, hg, c⟩
    · rw [if_pos c]
      exact TK_eq hF hG (fun g hg => homeA_o (by omega)) (fun f hf => homeA_o (by omega)) (fun f k hf => homeA_o (by omega)) ih
    · rw [c, if_neg (nI_nm1 (by omega)), nI_clamp (by omega)]
      exact TK_sail hF hG hl hg ih
theorem boat0_d {sg : Nat → Nat → Int32} {d k : Nat} (h : ∀ g, d ≠ 18 + 2 * g) : ∀ n, boat0 sg n d k = sg d k
  | 0 => rfl
  | n + 1 => by rw [boat0, up2_ne (.inl (h n)), boat0_d h n]
theorem TK_splits {A : Nat → Nat → Int32} {F G np ng : Nat} (W : WS A F G np ng) (D : WD A F G) (T : TKa A F G) : ∀ n, n ≤ np → TKa (splitsA A n) F G
  | 0, _ => T
  | n + 1, h => by
    have ih := TK_splits W D T n (by omega)
    obtain ⟨w1, w2⟩ := splitsA_W W D n (by omega)
    have hF : F ≤ 8 := W.2.2.2.1
    have hG : G ≤ 8 := W.2.1
    have W' := WS_c w1 W
    obtain ⟨k, k1, k2, k3, k4⟩ := WS_p W' (show n < np by omega)
    have hp6 : np ≤ 6 := W.2.2.2.2.1.2.1
    rw [splitsA]
    by_cases c : 0 ≤ splitsA A n (74 + 2 * n) 0
    · rw [if_pos c]; exact ih
    · rw [if_neg c, k3, nI_clamp (by omega)]
      exact TK_eq hF hG (fun g hg => splA_o k4 k1 (fun f hf => by omega) (by omega)) (fun f hf => splA_o k4 k1 (fun f' hf' => by omega) (by omega)) (fun f i hf => splA_o k4 k1 (fun f' hf' => by omega) (by omega)) ih
theorem TK_tide {pg : Nat → Nat} {len np ng F G : Nat} {A : Nat → Nat → Int32} (W : WS A F G np ng) (D : WD A F G) (T : TKa A F G) : TKa (tideA pg len np ng F G A) F G := by
  have hF : F ≤ 8 := W.2.2.2.1
  have hG : G ≤ 8 := W.2.1
  have t0 : eqT A (up2 A 0 1 (lkA F (A 0 1))) := eqT_2 (by unfold told; omega)
  have W0 := WS_c t0 W
  have D0 : WD (up2 A 0 1 (lkA F (A 0 1))) F G := by
    refine ⟨fun g hg s s1 s2 => ?_, fun f hf => ?_⟩
    · rw [up2_ne (.inl (by omega))]; exact D.1 g hg s s1 s2
    · have d2 := D.2 f hf
      unfold okF at d2 ⊢
      rw [up2_d (by omega)]; exact d2
  obtain ⟨b1, b2⟩ := boat0_W hF hG D0
  have W1 := WS_c b1 W0
  have T0 : TKa (up2 A 0 1 (lkA F (A 0 1))) F G := TK_eq hF hG (fun g hg => up2_ne (.inl (by omega))) (fun f hf => up2_ne (.inl (by omega))) (fun f k hf => up2_ne (.inl (by omega))) T
  have T1 : TKa (boat0 (up2 A 0 1 (lkA F (A 0 1))) G) F G := TK_eq hF hG (fun g hg => boat0_o (.inr (by omega)) G) (fun f hf => boat0_o (.inr (by omega)) G) (fun f k hf => boat0_d (fun g => by omega) G) T0
  have lt : ∀ i, i < F → ltA F (A 0 1) i < F := fun i hi => ltA_lt (by omega) hi
  have T2 := TK_fleet (pg := pg) (len := len) W1 b2 T1 F lt
  obtain ⟨w1, w2⟩ := fleetA_W (pg := pg) (len := len) (lf := ltA F (A 0 1)) W1 b2 F lt
  have T3 := TK_splits (WS_c w1 W1) w2 T2 np (Nat.le_refl _)
  have T4 : TKa (stA (tideP pg len np ng F G A) F) F G := TK_eq hF hG (fun g hg => stA_o F fun f hf => by omega) (fun f hf => stA_o F fun f' hf' => by omega) (fun f k hf => stA_o F fun f' hf' => by omega) T3
  have T5 : TKa (growA (stA (tideP pg len np ng F G A) F) G) F G := TK_eq hF hG (fun g hg => congrFun (growA_o G fun g' hg' => by omega) 2) (fun f hf => congrFun (growA_o G fun g' hg' => by omega) 8) (fun f k hf => congrFun (growA_o G fun g' hg' => by omega) k) T4
  exact TK_eq hF hG (fun g hg => up2_ne (.inl (by omega))) (fun f hf => up2_ne (.inl (by omega))) (fun f k hf => up2_ne (.inl (by omega))) T5

