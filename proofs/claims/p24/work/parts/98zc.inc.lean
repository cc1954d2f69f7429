/-! ## Pure: what tides bring is what the stores have more; rows that no tide sees -/
theorem fleet_o {pg : Nat → Nat} {len np ng F G d k : Nat} {lf : Nat → Nat} {A : Nat → Nat → Int32} (W : WS A F G np ng) (D : WD A F G) (hd : 1 ≤ d ∧ d < 18) : ∀ n, (∀ i, i < n → lf i < F) → fleetA pg len np ng lf A n d k = A d k
  | 0, _ => rfl
  | n + 1, h => by
    obtain ⟨w1, w2⟩ := fleetA_W (pg := pg) (len := len) (lf := lf) W D n fun i hi => h i (by omega)
    have hl := h n (by omega)
    have hG : G ≤ 8 := W.2.1
    have W' := WS_c w1 W
    have ih := fleet_o (pg := pg) (len := len) (k := k) W D hd n fun i hi => h i (by omega)
    show goA pg len np ng (fleetA pg len np ng lf A n) (lf n) d k = _
    unfold goA
    rcases fgo_v (pg := pg) (len := len) (f := lf n) W' ng 0 (by omega) with c | ⟨g, hg, c⟩
    · rw [if_pos c, homeA_o (.inl (by omega))]; exact ih
    · rw [c, if_neg (nI_nm1 (by omega)), nI_clamp (by omega), sailA_o (.inl (by omega)) (.inl (by omega)) (by omega) (.inl (by omega))]; exact ih
theorem splits_o {A : Nat → Nat → Int32} {F G np ng d k : Nat} (W : WS A F G np ng) (D : WD A F G) (hd : 1 ≤ d ∧ d < 18) : ∀ n, n ≤ np → splitsA A n d k = A d k
  | 0, _ => rfl
  | n + 1, hn => by
    obtain ⟨w1, w2⟩ := splitsA_W W D n (by omega)
    have W' := WS_c w1 W
    obtain ⟨q, k1, k2, k3, k4⟩ := WS_p W' (show n < np by omega)
    have ih := splits_o (k := k) W D hd n (by omega)
    rw [splitsA]
    by_cases c : 0 ≤ splitsA A n (74 + 2 * n) 0
    · rw [if_pos c]; exact ih
    · rw [if_neg c, k3, nI_clamp (by omega), splA_o k4 k1 (fun f hf => .inl (by omega)) (.inl (by omega))]; exact ih
theorem tide_o {pg : Nat → Nat} {len np ng F G d k : Nat} {A : Nat → Nat → Int32} (W : WS A F G np ng) (D : WD A F G) (hd : 1 ≤ d ∧ d < 18) : tideA pg len np ng F G A d k = A d k := by
  have hF : F ≤ 8 := W.2.2.2.1
  have hG : G ≤ 8 := W.2.1
  have t0 : eqT A (up2 A 0 1 (lkA F (A 0 1))) := eqT_2 (by unfold told; omega)
  have W0 := WS_c t0 W
  have D0 : WD (up2 A 0 1 (lkA F (A 0 1))) F G := by
    refine ⟨fun g hg s s1 s2 => ?_, fun f hf => ?_⟩
    · rw [up2_ne (.inl (by omega))]; exact D.1 g hg s s1 s2
    · have d2 := D.2 f hf
      unfold okF at d2 ⊢
      rw [up2_d (by omega)]; exact d2
  obtain ⟨b1, b2⟩ := boat0_W hF hG D0
  have W1 := WS_c b1 W0
  have lt : ∀ i, i < F → ltA F (A 0 1) i < F := fun i hi => ltA_lt (by omega) hi
  obtain ⟨w1, w2⟩ := fleetA_W (pg := pg) (len := len) (lf := ltA F (A 0 1)) W1 b2 F lt
  unfold tideA tideP
  rw [up2_ne (.inl (by omega)), growA_o G (fun g hg => by omega), stA_o F (fun f hf => .inl (by omega)), splits_o (WS_c w1 W1) w2 hd np (Nat.le_refl _), fleet_o W1 b2 hd F lt, boat0_o (.inl hd.2), up2_ne (.inl (by omega))]
theorem tides_o {pg : Nat → Nat} {len np ng F G d k : Nat} {A : Nat → Nat → Int32} (W : WS A F G np ng) (D : WD A F G) (hd : 1 ≤ d ∧ d < 18) : ∀ n, tidesA pg len np ng F G A n d k = A d k
  | 0 => rfl
  | n + 1 => by
    obtain ⟨h1, h2⟩ := tides_W (pg := pg) (len := len) W D n
    rw [tidesA, tide_o (WS_c h1 W) h2 hd]
    exact tides_o W D hd n
theorem tide_st {pg : Nat → Nat} {len np ng F G f : Nat} {A : Nat → Nat → Int32} (W : WS A F G np ng) (D : WD A F G) (hf : f < F) : tideA pg len np ng F G A (34 + 2 * f) 4 = A (34 + 2 * f) 4 + tideP pg len np ng F G A (34 + 2 * f) 5 := by
  have hF : F ≤ 8 := W.2.2.2.1
  have hG : G ≤ 8 := W.2.1
  have t0 : eqT A (up2 A 0 1 (lkA F (A 0 1))) := eqT_2 (by unfold told; omega)
  have W0 := WS_c t0 W
  have D0 : WD (up2 A 0 1 (lkA F (A 0 1))) F G := by
    refine ⟨fun g hg s s1 s2 => ?_, fun f hf => ?_⟩
    · rw [up2_ne (.inl (by omega))]; exact D.1 g hg s s1 s2
    · have d2 := D.2 f hf
      unfold okF at d2 ⊢
      rw [up2_d (by omega)]; exact d2
  obtain ⟨b1, b2⟩ := boat0_W hF hG D0
  have W1 := WS_c b1 W0
  have lt : ∀ i, i < F → ltA F (A 0 1) i < F := fun i hi => ltA_lt (by omega) hi
  obtain ⟨w1, w2⟩ := fleetA_W (pg := pg) (len := len) (lf := ltA F (A 0 1)) W1 b2 F lt
  have p4 : tideP pg len np ng F G A (34 + 2 * f) 4 = A (34 + 2 * f) 4 := by
    unfold tideP
    rw [st_splits (WS_c w1 W1) w2 (by omega) np (Nat.le_refl _), st_fleet W1 b2 F lt, boat0_o (.inr (by omega)), up2_ne (.inl (by omega))]
  unfold tideA
  rw [up2_ne (.inl (by omega)), growA_o G (fun g hg => by omega), stA_v F hf, p4]
theorem sumN_plus {f h : Nat → Int32} : ∀ n, sumN (fun i => f i + h i) n = sumN f n + sumN h n
  | 0 => rfl
  | n + 1 => by
    rw [sumN, sumN, sumN, sumN_plus n, Int32.add_assoc, Int32.add_assoc]
    congr 1
    rw [← Int32.add_assoc, ← Int32.add_assoc, Int32.add_comm (f n)]
theorem inc_st {pg : Nat → Nat} {len np ng F G : Nat} {A : Nat → Nat → Int32} (W : WS A F G np ng) (D : WD A F G) : ∀ n, sumN (fun i => tidesA pg len np ng F G A n (34 + 2 * i) 4) F = sumN (fun i => A (34 + 2 * i) 4) F + incA pg len np ng F G A n
  | 0 => by show _ = _ + (0 : Int32); rw [Int32.add_zero]; rfl
  | n + 1 => by
    obtain ⟨h1, h2⟩ := tides_W (pg := pg) (len := len) W D n
    rw [incA, ← Int32.add_assoc, ← inc_st W D n, ← sumN_plus]
    exact sumN_c F fun i hi => tide_st (WS_c h1 W) h2 hi

