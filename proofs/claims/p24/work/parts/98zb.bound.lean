/-! ## Pure: a tide brings at most 792 -/
theorem CT_spl {A : Nat → Nat → Int32} {F s p n : Nat} {c : Nat → Nat} (hF : F ≤ 8) (h : CTa A F s c) (hs : s < 2 ^ 30) (n1 : 1 ≤ n) (n2 : n ≤ 8) (hp : p < 6) (hm : ∀ j, j < n → ∃ f, f < F ∧ A (75 + 2 * p) j = nI f) : ∃ c', CTa (splA A p n) F s c' := by
  obtain ⟨c1, pot, h1, h2, h3⟩ := CT_spN hF h hs n hm
  have hP : okP A p n := fun j hj => by obtain ⟨f, hf, e⟩ := hm j hj; exact ⟨f, by omega, e⟩
  obtain ⟨c2, h4⟩ := CT_shN (p := p) (v := pot / n) hF h1 n fun j hj => by
    rw [spN_o n (fun f' hf' => by omega) hP]; exact hm j hj
  obtain ⟨f, hf, ef⟩ := hm 0 (by omega)
  have em : memA A p 0 = f := by unfold memA; rw [ef, nI_clamp (by omega)]
  have d1 : nI pot / nI n = nI (pot / n) := nI_div (by omega) (by omega)
  have d2 : nI pot - nI pot / nI n * nI n = nI (pot % n) := nI_rem (by omega) (by omega)
  have z := CT_set (v := c2 f + pot % n) (x := shN (spN A p n).1 p (nI (pot / n)) n (34 + 2 * f) 5 + nI (pot % n)) h4 hf (by rw [h4.1 f hf, nI_add])
  have tot : s - pot + n * (pot / n) + (c2 f + pot % n) - c2 f = s := by
    have := Nat.div_add_mod pot n
    omega
  rw [tot] at z
  refine ⟨fun i => if i = f then c2 f + pot % n else c2 i, fun f' hf' => ?_, z.2⟩
  unfold splA
  rw [up2_ne (.inl (by omega)), up2_ne (.inl (by omega)), up2_ne (.inl (by omega)), h2, em, d2, d1]
  exact z.1 f' hf'
theorem CT_splits {A : Nat → Nat → Int32} {F G np ng s : Nat} {c : Nat → Nat} (W : WS A F G np ng) (D : WD A F G) (h : CTa A F s c) (hs : s < 2 ^ 30) : ∀ n, n ≤ np → ∃ c', CTa (splitsA A n) F s c'
  | 0, _ => ⟨c, h⟩
  | n + 1, hn => by
    obtain ⟨c', ih⟩ := CT_splits W D h hs n (by omega)
    obtain ⟨w1, w2⟩ := splitsA_W W D n (by omega)
    have hF : F ≤ 8 := W.2.2.2.1
    have hp6 : np ≤ 6 := W.2.2.2.2.1.2.1
    have W' := WS_c w1 W
    obtain ⟨k, k1, k2, k3, k4⟩ := W'.2.2.2.2.2.2.2 n (by omega)
    rw [splitsA]
    by_cases q : 0 ≤ splitsA A n (74 + 2 * n) 0
    · rw [if_pos q]; exact ⟨c', ih⟩
    · rw [if_neg q, k3, nI_clamp (by omega)]
      exact CT_spl hF ih hs k1 k2 (by omega) k4
/-- stores don't change before they are stored -/
theorem st_fleet {pg : Nat → Nat} {len np ng F G : Nat} {lf : Nat → Nat} {A : Nat → Nat → Int32} (W : WS A F G np ng) (D : WD A F G) {f : Nat} : ∀ n, (∀ i, i < n → lf i < F) → fleetA pg len np ng lf A n (34 + 2 * f) 4 = A (34 + 2 * f) 4
  | 0, _ => rfl
  | n + 1, h => by
    obtain ⟨w1, w2⟩ := fleetA_W (pg := pg) (len := len) (lf := lf) W D n fun i hi => h i (by omega)
    have hl := h n (by omega)
    have hG : G ≤ 8 := W.2.1
    have W' := WS_c w1 W
    have ih := st_fleet (pg := pg) (len := len) (f := f) W D n fun i hi => h i (by omega)
    show goA pg len np ng (fleetA pg len np ng lf A n) (lf n) (34 + 2 * f) 4 = _
    unfold goA
    rcases fgo_v (pg := pg) (len := len) (f := lf n) W' ng 0 (by omega) with c | ⟨g, hg, c⟩
    · rw [if_pos c, homeA_o (.inr (by omega))]; exact ih
    · rw [c, if_neg (nI_nm1 (by omega)), nI_clamp (by omega)]
      by_cases e : 34 + 2 * f = 19 + 2 * g ∨ 34 + 2 * f = 35 + 2 * lf n
      · omega
      · rw [sailA_o (.inr (by omega)) (.inr (by omega)) (by omega) (by omega)]; exact ih
theorem st_splits {A : Nat → Nat → Int32} {F G np ng f : Nat} (W : WS A F G np ng) (D : WD A F G) (hf : f < 8) : ∀ n, n ≤ np → splitsA A n (34 + 2 * f) 4 = A (34 + 2 * f) 4
  | 0, _ => rfl
  | n + 1, hn => by
    obtain ⟨w1, w2⟩ := splitsA_W W D n (by omega)
    have W' := WS_c w1 W
    obtain ⟨k, k1, k2, k3, k4⟩ := WS_p W' (show n < np by omega)
    have ih := st_splits W D hf n (by omega)
    rw [splitsA]
    by_cases q : 0 ≤ splitsA A n (74 + 2 * n) 0
    · rw [if_pos q]; exact ih
    · rw [if_neg q, k3, nI_clamp (by omega), splA_o k4 k1 (fun f hf => .inr (by omega)) (.inl (by omega))]; exact ih
theorem stA_v {A : Nat → Nat → Int32} {f : Nat} : ∀ n, f < n → stA A n (34 + 2 * f) 4 = A (34 + 2 * f) 4 + A (34 + 2 * f) 5
  | 0, h => absurd h (Nat.not_lt_zero _)
  | n + 1, h => by
    rw [stA]
    by_cases e : f = n
    · subst e; rw [up2_eq]
    · rw [up2_ne (.inl (by omega))]; exact stA_v n (by omega)
theorem SVa_tide {pg : Nat → Nat} {len np ng F G kb : Nat} {A : Nat → Nat → Int32} (W : WS A F G np ng) (D : WD A F G) (V : SVa kb A F G) : SVa (kb + 792) (tideA pg len np ng F G A) F G := by
  have hF : F ≤ 8 := W.2.2.2.1
  have hG : G ≤ 8 := W.2.1
  have TT := TK_tide (pg := pg) (len := len) W D ⟨V.2.1, V.2.2.1⟩
  have t0 : eqT A (up2 A 0 1 (lkA F (A 0 1))) := eqT_2 (by unfold told; omega)
  have W0 := WS_c t0 W
  have D0 : WD (up2 A 0 1 (lkA F (A 0 1))) F G := by
    refine ⟨fun g hg s s1 s2 => ?_, fun f hf => ?_⟩
    · rw [up2_ne (.inl (by omega))]; exact D.1 g hg s s1 s2
    · have d2 := D.2 f hf
      unfold okF at d2 ⊢
      rw [up2_d (by omega)]; exact d2
  obtain ⟨b1, b2⟩ := boat0_W hF hG D0
  have W1 := WS_c b1 W0
  have lt : ∀ i, i < F → ltA F (A 0 1) i < F := fun i hi => ltA_lt (by omega) hi
  obtain ⟨w1, w2⟩ := fleetA_W (pg := pg) (len := len) (lf := ltA F (A 0 1)) W1 b2 F lt
  have W2 := WS_c w1 W1
  obtain ⟨B, hB⟩ : ∃ B, B = fleetA pg len np ng (ltA F (A 0 1)) (boat0 (up2 A 0 1 (lkA F (A 0 1))) G) F := ⟨_, rfl⟩
  rw [← hB] at w1 w2 W2
  have cq : ∀ f, f < F → CQ B f := fun f hf => by
    obtain ⟨i, hi, e⟩ := lt_sur (x := A 0 1) (show F < 2 ^ 31 by omega) hf
    have := CQ_fleet (pg := pg) (len := len) (lf := ltA F (A 0 1)) W1 b2 F lt i hi
    rw [e, ← hB] at this
    exact this
  obtain ⟨c, hc⟩ : ∃ c : Nat → Nat, ∀ f, f < F → c f ≤ 99 ∧ B (34 + 2 * f) 5 = nI (c f) :=
    ⟨fun f => (B (34 + 2 * f) 5).toNatClampNeg, fun f hf => by
      obtain ⟨k, k1, k2⟩ := cq f hf
      show (B (34 + 2 * f) 5).toNatClampNeg ≤ 99 ∧ _ = nI (B (34 + 2 * f) 5).toNatClampNeg
      rw [k2, nI_clamp (by omega)]
      exact ⟨k1, rfl⟩⟩
  have sb := smN_b (c := c) (k := 99) F fun i hi => (hc i hi).1
  obtain ⟨c', hc'⟩ := CT_splits W2 w2 ⟨fun f hf => (hc f hf).2, rfl⟩ (by omega) np (Nat.le_refl _)
  have hT : tideP pg len np ng F G A = splitsA B np := by unfold tideP; rw [hB]
  refine ⟨fun f hf => ?_, TT.1, TT.2, fun f hf => ?_⟩
  · obtain ⟨a, a1, a2⟩ := V.1 f hf
    have le := smN_le (c := c') (f := f) F hf
    rw [hc'.2] at le
    refine ⟨a + c' f, by omega, ?_⟩
    unfold tideA
    rw [up2_ne (.inl (by omega)), growA_o G (fun g hg => by omega), stA_v F hf, hT, hc'.1 f hf, st_splits W2 w2 (by omega) np (Nat.le_refl _), hB, st_fleet W1 b2 F lt, boat0_o (.inr (by omega)), up2_ne (.inl (by omega)), a2, nI_add]
  · rw [(tide_W (pg := pg) (len := len) W D).2.1 (34 + 2 * f) 0 (by unfold told; omega)]
    exact V.2.2.2 f hf
theorem SVa_tides {pg : Nat → Nat} {len np ng F G kb : Nat} {A : Nat → Nat → Int32} (W : WS A F G np ng) (D : WD A F G) (V : SVa kb A F G) : ∀ n, SVa (kb + 792 * n) (tidesA pg len np ng F G A n) F G
  | 0 => V
  | n + 1 => by
    obtain ⟨h1, h2⟩ := tides_W (pg := pg) (len := len) W D n
    have := SVa_tide (pg := pg) (len := len) (WS_c h1 W) h2 (SVa_tides (pg := pg) (len := len) W D V n)
    rw [Nat.add_assoc, ← Nat.mul_succ] at this
    exact this

