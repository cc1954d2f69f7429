/-! ## Pure: all that a tide does -/
theorem boat0_b {sg : Nat → Nat → Int32} {d k : Nat} : ∀ n, (∀ g, g < n → d ≠ 18 + 2 * g) → boat0 sg n d k = sg d k
  | 0, _ => rfl
  | n + 1, h => by rw [boat0, up2_ne (.inl (h n (by omega))), boat0_b n fun g hg => h g (by omega)]
theorem sumN_n {c : Nat → Nat} : ∀ n, sumN (fun i => nI (c i)) n = nI (smN c n)
  | 0 => rfl
  | n + 1 => by rw [sumN, smN, sumN_n n, nI_add]
/-- a fleet leaves the pacts -/
theorem fl_pact {pg : Nat → Nat} {len np ng F G : Nat} {lf : Nat → Nat} {A : Nat → Nat → Int32} (W : WS A F G np ng) (D : WD A F G) {p k : Nat} (hp : p < np) (hp6 : np ≤ 6) : ∀ n, (∀ i, i < n → lf i < F) → fleetA pg len np ng lf A n (74 + 2 * p) k = A (74 + 2 * p) k
  | 0, _ => rfl
  | n + 1, h => by
    have ih := fl_pact (pg := pg) (len := len) (lf := lf) (k := k) W D hp hp6 n fun i hi => h i (by omega)
    obtain ⟨w1, w2⟩ := fleetA_W (pg := pg) (len := len) (lf := lf) W D n fun i hi => h i (by omega)
    have hF : F ≤ 8 := W.2.2.2.1
    have hG : G ≤ 8 := W.2.1
    have hl := h n (by omega)
    have W' := WS_c w1 W
    show goA pg len np ng (fleetA pg len np ng lf A n) (lf n) (74 + 2 * p) k = _
    unfold goA
    rcases fgo_v (pg := pg) (len := len) (f := lf n) W' ng 0 (by omega) with c | ⟨g0, hg0, c⟩
    · rw [if_pos c, homeA_o (.inl (by omega))]; exact ih
    · rw [c, if_neg (nI_nm1 (by omega)), nI_clamp (by omega), sailA_o (.inl (by omega)) (.inl (by omega)) (by omega) (.inl (by omega))]; exact ih
theorem TDE {pg : Nat → Nat} {len np ng F G kb : Nat} {A : Nat → Nat → Int32} (W : WS A F G np ng) (D : WD A F G) (DS : DSt A np) (rm : ∀ g, g < G → ∃ r, r < 2 ^ 30 ∧ A (18 + 2 * g) 0 = nI r) :
    tideA pg len np ng F G A 0 0 = A 0 0 + 1 ∧
    (∃ c s, s ≤ 792 ∧ (∀ f, f < F → tideA pg len np ng F G A (34 + 2 * f) 5 = nI (c f)) ∧ smN c F = s ∧ incA pg len np ng F G A 1 = nI s ∧ ∀ p, p < np → PQ A (tideA pg len np ng F G A) s p) ∧
    (∀ f, f < F → FQ A (tideA pg len np ng F G A) G f) ∧
    (∀ g, g < G → ∃ b r, tideA pg len np ng F G A (18 + 2 * g) 1 = nI b ∧ A (18 + 2 * g) 0 = nI r ∧ r < 2 ^ 30 ∧ b ≤ r ∧ b = smN (fun f => if tideA pg len np ng F G A (34 + 2 * f) 6 = nI g then 1 else 0) F) ∧
    (∀ g, g < G → ∃ a0 a b, RWn (A (19 + 2 * g)) a0 ∧ RWn (tideA pg len np ng F G A (19 + 2 * g)) b ∧ smF a ≤ smF a0 ∧ tideA pg len np ng F G A (18 + 2 * g) 2 + nI (smF a) = A (18 + 2 * g) 2 + nI (smF a0) ∧ smF b ≤ smF a + smF a / 6 ∧ smF a ≤ smF b + 99) := by
  have hF : F ≤ 8 := W.2.2.2.1
  have hG : G ≤ 8 := W.2.1
  have hp6 : np ≤ 6 := W.2.2.2.2.1.2.1
  have t0 : eqT A (up2 A 0 1 (lkA F (A 0 1))) := eqT_2 (by unfold told; omega)
  have W0 := WS_c t0 W
  have D0 : WD (up2 A 0 1 (lkA F (A 0 1))) F G := by
    refine ⟨fun g hg s s1 s2 => ?_, fun f hf => ?_⟩
    · rw [up2_ne (.inl (by omega))]; exact D.1 g hg s s1 s2
    · have d2 := D.2 f hf
      unfold okF at d2 ⊢
      rw [up2_d (by omega)]; exact d2
  obtain ⟨b1, b2⟩ := boat0_W hF hG D0
  have W1 := WS_c b1 W0
  have lt : ∀ i, i < F → ltA F (A 0 1) i < F := fun i hi => ltA_lt (by omega) hi
  have li : ∀ i j, i < j → j < F → ltA F (A 0 1) i ≠ ltA F (A 0 1) j := fun i j hi hj => lt_inj (by omega) hi hj
  -- before the fleet
  obtain ⟨A1, hA1⟩ : ∃ A1, A1 = boat0 (up2 A 0 1 (lkA F (A 0 1))) G := ⟨_, rfl⟩
  have a1 : ∀ d k, 1 ≤ d → (k ≠ 1 ∨ ∀ g, g < 8 → d ≠ 18 + 2 * g) → A1 d k = A d k := fun d k h1 h2 => by
    rw [hA1]
    rcases h2 with h2 | h2
    · rw [boat0_o (.inr h2), up2_ne (.inl (by omega))]
    · rw [boat0_b G (fun g hg => h2 g (by omega)), up2_ne (.inl (by omega))]
  have a10 : ∀ k, k ≠ 1 → A1 0 k = A 0 k := fun k h => by
    rw [hA1, boat0_o (.inl (by decide)), up2_ne (.inr h)]
  rw [← hA1] at b1 b2 W1
  have rm1 : ∀ g, g < G → ∃ r, r < 2 ^ 30 ∧ A1 (18 + 2 * g) 0 = nI r := fun g hg => by
    obtain ⟨r, r1, r2⟩ := rm g hg
    exact ⟨r, r1, (a1 _ _ (by omega) (.inl (by decide))).trans r2⟩
  have z1 : ∀ g, g < G → A1 (18 + 2 * g) 1 = 0 := fun g hg => by rw [hA1]; exact boat0_z G hg
  -- the fleet
  obtain ⟨w1, w2⟩ := fleetA_W (pg := pg) (len := len) (lf := ltA F (A 0 1)) W1 b2 F lt
  have fs := FSg_fleet (pg := pg) (len := len) (lf := ltA F (A 0 1)) W1 b2 F lt
  have fq := fl_fq (pg := pg) (len := len) (lf := ltA F (A 0 1)) W1 b2 F lt li
  have bt := fl_bt (pg := pg) (len := len) (lf := ltA F (A 0 1)) W1 b2 rm1 z1 F lt li
  have cq : ∀ f, f < F → CQ (fleetA pg len np ng (ltA F (A 0 1)) A1 F) f := fun f hf => by
    obtain ⟨i, hi, e⟩ := lt_sur (x := A 0 1) (show F < 2 ^ 31 by omega) hf
    have := CQ_fleet (pg := pg) (len := len) (lf := ltA F (A 0 1)) W1 b2 F lt i hi
    rw [e] at this
    exact this
  have fo : ∀ d k, 1 ≤ d ∧ d < 18 → fleetA pg len np ng (ltA F (A 0 1)) A1 F d k = A1 d k := fun d k hd => fleet_o W1 b2 hd F lt
  have hT : tideP pg len np ng F G A = splitsA (fleetA pg len np ng (ltA F (A 0 1)) A1 F) np := by unfold tideP; rw [hA1]
  obtain ⟨X, hX⟩ : ∃ X, X = fleetA pg len np ng (ltA F (A 0 1)) A1 F := ⟨_, rfl⟩
  rw [← hX] at w1 w2 fs fq bt cq hT
  have W2 := WS_c w1 W1
  -- catches
  obtain ⟨c, hc⟩ : ∃ c : Nat → Nat, ∀ f, f < F → c f ≤ 99 ∧ X (34 + 2 * f) 5 = nI (c f) :=
    ⟨fun f => (X (34 + 2 * f) 5).toNatClampNeg, fun f hf => by
      obtain ⟨k, k1, k2⟩ := cq f hf
      show (X (34 + 2 * f) 5).toNatClampNeg ≤ 99 ∧ _ = nI (X (34 + 2 * f) 5).toNatClampNeg
      rw [k2, nI_clamp (by omega)]
      exact ⟨k1, rfl⟩⟩
  have sb := smN_b (c := c) (k := 99) F fun i hi => (hc i hi).1
  have ct : CTa X F (smN c F) c := ⟨fun f hf => (hc f hf).2, rfl⟩
  have told_p : ∀ p k, p < np → k ≤ 3 → X (74 + 2 * p) k = A (74 + 2 * p) k := fun p k hp hk => (w1 _ _ (by unfold told; omega)).trans (a1 _ _ (by omega) (.inr (fun g hg => by omega)))
  have told_m : ∀ p k, p < np → X (75 + 2 * p) k = A (75 + 2 * p) k := fun p k hp => (w1 _ _ (by unfold told; omega)).trans (a1 _ _ (by omega) (.inr (fun g hg => by omega)))
  have DS2 : DSt X np := fun p hp n hn en i j hi hj => by
    rw [told_m p i hp, told_m p j hp]
    exact DS p hp n hn ((told_p p 3 hp (by decide)).symm.trans en) i j hi hj
  obtain ⟨c', hc'⟩ := CT_splits W2 w2 ct (by omega) np (Nat.le_refl _)
  have pq := PQ_splits W2 w2 DS2 ct (by omega) np (Nat.le_refl _)
  -- rows of pacts: the fleet leaves them
  have xp : ∀ p k, p < np → X (74 + 2 * p) k = A (74 + 2 * p) k := fun p k hp => by
    rw [hX, ← a1 _ _ (show 1 ≤ 74 + 2 * p by omega) (.inr (fun g hg => by omega))]
    exact fl_pact W1 b2 hp hp6 F lt
  -- the tide, row by row
  have tf : ∀ f k, f < F → k ≠ 4 → k ≠ 5 → tideA pg len np ng F G A (34 + 2 * f) k = X (34 + 2 * f) k := fun f k hf h4 h5 => by
    unfold tideA
    rw [up2_ne (.inl (by omega)), growA_o G (fun g hg => by omega), stA_o F (fun f hf => .inr h4), hT]
    exact sp_gen W2 w2 (fun f hf => .inr h5) (fun p hp => .inl (by omega)) np (Nat.le_refl _)
  have t5 : ∀ f, f < F → tideA pg len np ng F G A (34 + 2 * f) 5 = splitsA X np (34 + 2 * f) 5 := fun f hf => by
    unfold tideA
    rw [up2_ne (.inl (by omega)), growA_o G (fun g hg => by omega), stA_o F (fun f hf => .inr (by decide)), hT]
  have tg : ∀ g k, g < G → tideA pg len np ng F G A (18 + 2 * g) k = X (18 + 2 * g) k := fun g k hg => by
    unfold tideA
    rw [up2_ne (.inl (by omega)), growA_o G (fun g hg => by omega), stA_o F (fun f hf => .inl (by omega)), hT]
    exact sp_gen W2 w2 (fun f hf => .inl (by omega)) (fun p hp => .inl (by omega)) np (Nat.le_refl _)
  have ts : ∀ g, g < G → tideA pg len np ng F G A (19 + 2 * g) = gro (X (19 + 2 * g)) := fun g hg => by
    have e0 : tideA pg len np ng F G A (19 + 2 * g) = growA (stA (tideP pg len np ng F G A) F) G (19 + 2 * g) := by
      unfold tideA
      exact up2_d (by omega)
    rw [e0, growA_g G hg]
    congr 1
    funext s
    rw [stA_o F (fun f hf => .inl (by omega)), hT]
    exact sp_gen W2 w2 (fun f hf => .inl (by omega)) (fun p hp => .inl (by omega)) np (Nat.le_refl _)
  have tp : ∀ p k, p < np → tideA pg len np ng F G A (74 + 2 * p) k = splitsA X np (74 + 2 * p) k := fun p k hp => by
    unfold tideA
    rw [up2_ne (.inl (by omega)), growA_o G (fun g hg => by omega), stA_o F (fun f hf => .inl (by omega)), hT]
  refine ⟨?_, ⟨c', smN c F, by omega, fun f hf => (t5 f hf).trans (hc'.1 f hf), hc'.2, ?_, fun p hp => ?_⟩, fun f hf => ?_, fun g hg => ?_, fun g hg => ?_⟩
  · unfold tideA
    rw [up2_eq]
  · show (0 : Int32) + sumN (fun i => tideP pg len np ng F G A (34 + 2 * i) 5) F = _
    rw [Int32.zero_add, hT, sumN_c (h := fun i => nI (c' i)) F hc'.1, sumN_n F, hc'.2]
  · obtain ⟨q1, q2⟩ := (pq p hp).1 hp
    refine ⟨fun y k => ?_, fun y => ?_⟩
    · rw [tp p k hp, q1 (by rw [xp p 0 hp]; exact y) k, xp p k hp]
    · obtain ⟨pot, hid, n, b1, b2, b3, b4, b5, b6, b7, b8⟩ := q2 (by rw [xp p 0 hp]; exact y)
      rw [xp p 3 hp] at b4
      rw [xp p 5 hp] at b5
      rw [xp p 6 hp] at b6
      rw [xp p 7 hp] at b7
      refine ⟨pot, hid, n, b1, b2, b3, b4, (tp p 5 hp).trans b5, (tp p 6 hp).trans b6, (tp p 7 hp).trans b7, fun y => ?_⟩
      obtain ⟨j, j1, j2⟩ := b8 y
      obtain ⟨n', n1, n2, n3, n4⟩ := W2.2.2.2.2.2.2.2 p hp
      have hnn : n' = n := by
        have : nI n' = nI n := by rw [← n3, xp p 3 hp, b4]
        exact (nI_eq (by omega) (by omega)).mp this
      obtain ⟨f, hf, ef⟩ := n4 j (by omega)
      have m1 : memA X p j = f := by unfold memA; rw [ef, nI_clamp (by omega)]
      have m2 : memA A p j = f := by unfold memA; rw [← told_m p j hp, ef, nI_clamp (by omega)]
      refine ⟨j, j1, ?_⟩
      rw [m1, w1 _ _ (by unfold told; omega), a1 _ _ (by omega) (.inl (by decide))] at j2
      rw [m2]; exact j2
  · obtain ⟨i, hi, e⟩ := lt_sur (x := A 0 1) (show F < 2 ^ 31 by omega) hf
    have q := fq i hi
    rw [e] at q
    have q := FQ_c (Y := tideA pg len np ng F G A) q (fun k hk => tf f k hf (by omega) (by omega))
    unfold FQ at q ⊢
    rw [a1 (34 + 2 * f) 8 (by omega) (.inl (by decide)), a1 (34 + 2 * f) 7 (by omega) (.inl (by decide)), a1 (34 + 2 * f) 3 (by omega) (.inl (by decide)), a1 (34 + 2 * f) 1 (by omega) (.inr (fun g hg => by omega))] at q
    exact q
  · obtain ⟨b, r, e1, e2, e3, e4, e5⟩ := bt g hg
    refine ⟨b, r, (tg g 1 hg).trans e1, (a1 _ _ (by omega) (.inl (by decide))).symm.trans e2, e3, e4, ?_⟩
    rw [e5, smN_perm (k := 1) (m := ltA F (A 0 1)) (c := fun f => if X (34 + 2 * f) 6 = nI g then 1 else 0) lt li (fun i => by
      show (if X (34 + 2 * i) 6 = nI g then 1 else 0) ≤ 1
      split <;> omega)]
    exact smN_c F fun f hf => by rw [tf f 6 hf (by decide) (by decide)]
  · obtain ⟨a0, a, r0, r, le, e⟩ := fs g hg
    obtain ⟨b, rb, u1, u2⟩ := gro_n r
    refine ⟨a0, a, b, fun s s1 s2 => by rw [← a1 (19 + 2 * g) s (by omega) (.inr (fun g' hg' => by omega))]; exact r0 s s1 s2, by rw [ts g hg]; exact rb, smF_5 le, ?_, u1, u2⟩
    rw [tg g 2 hg, e, a1 _ _ (by omega) (.inl (by decide))]
