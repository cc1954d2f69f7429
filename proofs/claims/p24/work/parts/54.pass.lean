/-! ## Pure: a tide's end, many tides -/
theorem splA_o {A : Nat → Nat → Int32} {p n d k : Nat} (hP : okP A p n) (hn : 1 ≤ n) (h1 : ∀ f, f < 8 → d ≠ 34 + 2 * f ∨ k ≠ 5) (h2 : d ≠ 74 + 2 * p ∨ (k ≠ 5 ∧ k ≠ 6 ∧ k ≠ 7)) : splA A p n d k = A d k := by
  have hP2 : okP (spN A p n).1 p n := fun i hi => by
    obtain ⟨f, hf, ef⟩ := hP i hi
    exact ⟨f, hf, by rw [spN_o n (fun f _ => by omega) hP, ef]⟩
  obtain ⟨f0, hf0, ef0⟩ := hP 0 (by omega)
  have em : memA A p 0 = f0 := by unfold memA; rw [ef0, nI_clamp (by omega)]
  unfold splA
  rw [up2_ne (by omega), up2_ne (by omega), up2_ne (by omega), add5_o (by rw [em]; exact h1 f0 hf0), shN_o n h1 hP2, spN_o n h1 hP]
theorem splA_T {A : Nat → Nat → Int32} {p n : Nat} (hP : okP A p n) (hn : 1 ≤ n) : eqT A (splA A p n) := fun d k t => by
  unfold told at t
  exact splA_o hP hn (fun f hf => by omega) (by omega)
theorem splA_D {A : Nat → Nat → Int32} {p n F G : Nat} (hP : okP A p n) (hn : 1 ≤ n) (hF : F ≤ 8) (hG : G ≤ 8) (D : WD A F G) : WD (splA A p n) F G :=
  ⟨fun g hg => okG_c (fun s => splA_o hP hn (fun f hf => by omega) (by omega)) (D.1 g hg), fun f hf => okF_c (fun k hk => splA_o hP hn (fun f hf => by omega) (by omega)) (D.2 f hf)⟩
/-- the first n pacts have split, if they do -/
def splitsA (A : Nat → Nat → Int32) : Nat → Nat → Nat → Int32
  | 0 => A
  | n + 1 => if 0 ≤ splitsA A n (74 + 2 * n) 0 then splitsA A n else splA (splitsA A n) n (splitsA A n (74 + 2 * n) 3).toNatClampNeg
theorem WS_p {A : Nat → Nat → Int32} {F G np ng p : Nat} (W : WS A F G np ng) (hp : p < np) : ∃ n, 1 ≤ n ∧ n ≤ 8 ∧ A (74 + 2 * p) 3 = nI n ∧ okP A p n := by
  obtain ⟨n, n1, n2, n3, n4⟩ := W.2.2.2.2.2.2.2 p hp
  refine ⟨n, n1, n2, n3, fun i hi => ?_⟩
  obtain ⟨f, hf, ef⟩ := n4 i hi
  exact ⟨f, by have := W.2.2.2.1; omega, ef⟩
theorem splitsA_W {A : Nat → Nat → Int32} {F G np ng : Nat} (W : WS A F G np ng) (D : WD A F G) : ∀ n, n ≤ np → eqT A (splitsA A n) ∧ WD (splitsA A n) F G
  | 0, _ => ⟨eqT_r A, D⟩
  | n + 1, h => by
    obtain ⟨h1, h2⟩ := splitsA_W W D n (by omega)
    have W' := WS_c h1 W
    obtain ⟨m, m1, m2, m3, m4⟩ := WS_p W' (show n < np by omega)
    unfold splitsA
    by_cases c : 0 ≤ splitsA A n (74 + 2 * n) 0
    · rw [if_pos c]; exact ⟨h1, h2⟩
    · rw [if_neg c, m3, nI_clamp (by omega)]
      exact ⟨eqT_t h1 (splA_T m4 m1), splA_D m4 m1 W.2.2.2.1 W.2.1 h2⟩
theorem splits_nz {A : Nat → Nat → Int32} {F G np ng : Nat} (W : WS A F G np ng) (D : WD A F G) : ∀ n, n ≤ np → nz (splitsA A n) = splitsA (nz A) n
  | 0, _ => rfl
  | n + 1, h => by
    have h0 := splits_nz W D n (by omega)
    obtain ⟨h1, h2⟩ := splitsA_W W D n (by omega)
    obtain ⟨m, m1, m2, m3, m4⟩ := WS_p (WS_c h1 W) (show n < np by omega)
    have e : splitsA (nz A) n (74 + 2 * n) = splitsA A n (74 + 2 * n) := by rw [← h0, nz_e (by omega)]
    unfold splitsA
    rw [e]
    by_cases c : 0 ≤ splitsA A n (74 + 2 * n) 0
    · rw [if_pos c, if_pos c, h0]
    · rw [if_neg c, if_neg c, m3, nI_clamp (by omega), spl_nz m4, h0]
/-- the first n grounds have grown -/
def growA (A : Nat → Nat → Int32) : Nat → Nat → Nat → Int32
  | 0 => A
  | n + 1 => up1 (growA A n) (19 + 2 * n) (gro (A (19 + 2 * n)))
theorem growA_o {A : Nat → Nat → Int32} {d : Nat} : ∀ n, (∀ g, g < n → d ≠ 19 + 2 * g) → growA A n d = A d
  | 0, _ => rfl
  | n + 1, h => by rw [growA, up1_o (h n (by omega)), growA_o n (fun g hg => h g (by omega))]
theorem growA_g {A : Nat → Nat → Int32} {g : Nat} : ∀ n, g < n → growA A n (19 + 2 * g) = gro (A (19 + 2 * g))
  | 0, h => absurd h (Nat.not_lt_zero _)
  | n + 1, h => by
    rw [growA]
    by_cases c : g = n
    · subst c; rw [up1_e]
    · rw [up1_o (by omega), growA_g n (by omega)]
theorem grow_nz {A : Nat → Nat → Int32} : ∀ n, nz (growA A n) = growA (nz A) n
  | 0 => rfl
  | n + 1 => by rw [growA, growA, nz_up1 (by omega), grow_nz n, nz_e (show 19 + 2 * n < 8 ∨ 11 < 19 + 2 * n by omega)]
/-- the fish of a growing ground stay in their bounds -/
theorem gr1_b {f : Nat → Int32} {j : Nat} (h : ∀ s, 1 ≤ s → s ≤ 5 → ∃ n, n ≤ 99 ∧ f s = nI n) (hj : 1 ≤ j) (hj2 : j ≤ 4) : ∀ s, 1 ≤ s → s ≤ 5 → ∃ n, n ≤ 99 ∧ gr1 f j s = nI n := by
  obtain ⟨a, ha, ea⟩ := h j hj (by omega)
  obtain ⟨b, hb, eb⟩ := h (j + 1) (by omega) (by omega)
  have e5 : nI a / 5 = nI (a / 5) := nI_div (b := 5) (by omega) (by omega)
  have e99 : (99 : Int32) = nI 99 := rfl
  intro s h1 h2
  unfold gr1
  by_cases c : s = j + 1
  · subst c
    rw [up1_e, ea, eb, e5, nI_add, e99, imin_nI (by omega) (by omega)]
    exact ⟨_, Nat.min_le_right _ _, rfl⟩
  · rw [up1_o c]
    by_cases c2 : s = j
    · subst c2
      rw [up1_e, ea, e5, nI_sub (Nat.div_le_self _ _)]
      exact ⟨a - a / 5, by omega, rfl⟩
    · rw [up1_o c2]; exact h s h1 h2
theorem grN_b {f : Nat → Int32} (h : ∀ s, 1 ≤ s → s ≤ 5 → ∃ n, n ≤ 99 ∧ f s = nI n) : ∀ j, j ≤ 4 → ∀ s, 1 ≤ s → s ≤ 5 → ∃ n, n ≤ 99 ∧ grN f j s = nI n
  | 0, _ => h
  | j + 1, hj => gr1_b (grN_b h j (by omega)) (by omega) (by omega)
theorem sum5_b {f : Nat → Int32} (h : ∀ s, 1 ≤ s → s ≤ 5 → ∃ n, n ≤ 99 ∧ f s = nI n) : ∀ j, j ≤ 5 → ∃ n, n ≤ 99 * j ∧ sum5 f j = nI n
  | 0, _ => ⟨0, Nat.zero_le _, rfl⟩
  | j + 1, hj => by
    obtain ⟨n, hn, en⟩ := sum5_b h j (by omega)
    obtain ⟨a, ha, ea⟩ := h (j + 1) (by omega) hj
    refine ⟨n + a, by omega, ?_⟩
    rw [sum5, en, ea, nI_add]
theorem gro_b {f : Nat → Int32} (h : ∀ s, 1 ≤ s → s ≤ 5 → ∃ n, n ≤ 99 ∧ f s = nI n) : ∀ s, 1 ≤ s → s ≤ 5 → ∃ n, n ≤ 99 ∧ gro f s = nI n := by
  have h4 := grN_b h 4 (by omega)
  obtain ⟨n, hn, en⟩ := sum5_b h4 5 (by omega)
  obtain ⟨a, ha, ea⟩ := h4 1 (by omega) (by omega)
  have e6 : nI n / 6 = nI (n / 6) := nI_div (b := 6) (by omega) (by omega)
  have e99 : (99 : Int32) = nI 99 := rfl
  intro s h1 h2
  unfold gro
  by_cases c : s = 1
  · subst c
    rw [up1_e, ea, en, e6, nI_add, e99, imin_nI (by omega) (by omega)]
    exact ⟨_, Nat.min_le_right _ _, rfl⟩
  · rw [up1_o c]; exact h4 s h1 h2
theorem growA_W {A : Nat → Nat → Int32} {F G : Nat} (hF : F ≤ 8) (hG : G ≤ 8) (D : WD A F G) : eqT A (growA A G) ∧ WD (growA A G) F G := by
  refine ⟨fun d k t => ?_, fun g hg => ?_, fun f hf => okF_c (fun k _ => by rw [growA_o G (fun g hg => by omega)]) (D.2 f hf)⟩
  · unfold told at t
    rw [growA_o G (fun g hg => by omega)]
  · intro s h1 h2
    rw [growA_g G hg]
    exact gro_b (D.1 g hg) s h1 h2
theorem uI_sC {o d : Nat} {sg : Nat → Nat → Int32} {M : gMem} {r : Nat → Int32} (h : d < 86) : uI (sC o sg M) (o + d) r = sC o (up1 sg d r) M := by
  unfold uI sC sI
  congr 3
  funext a k
  show up1 (fun a k => if o ≤ a ∧ a < o + 86 then sg (a - o) k else mI M a k) (o + d) r a k = if o ≤ a ∧ a < o + 86 then up1 sg d r (a - o) k else mI M a k
  by_cases h1 : a = o + d
  · subst h1
    rw [up1_e, if_pos ⟨by omega, by omega⟩, Nat.add_sub_cancel_left, up1_e]
  · rw [up1_o h1]
    by_cases h2 : o ≤ a ∧ a < o + 86
    · rw [if_pos h2, if_pos h2, up1_o (by omega)]
    · rw [if_neg h2, if_neg h2]
theorem s7_gGrow {M : gMem} {o i : Nat} {sg : Nat → Nat → Int32} (L : LC o M) (hi : i < 8) : f_X3_grow (sC o sg M) (o + (18 + 2 * i)) = some ((), sC o (up1 sg (19 + 2 * i) (gro (sg (19 + 2 * i)))) M) := by
  have h := s_grow (M := sC o sg M) (g := o + (18 + 2 * i)) (af := o + (19 + 2 * i)) (cTg L hi) (cRg L hi) (cTgf L hi) (cLgf L hi)
  rw [sC_Ig (by omega), uI_sC (by omega)] at h
  exact h
theorem s7_p100 {Z : Nat → Nat} {M : gMem} {o G : Nat} {sg : Nat → Nat → Int32} {x1 x2 x3 : Int32} (L : LC o M) (h : sg 0 2 = nI G) (hG : G ≤ 8) : lp_X7_passTides_100 Z (sC o sg M) o x1 x2 x3 (nI 0) = some (.inl (sC o (up2 (growA sg G) 0 0 (sg 0 0 + 1)) M, x2, x3 + 1)) := by
  unfold lp_X7_passTides_100
  have e0 : ∀ j, growA sg j 0 = sg 0 := fun j => growA_o j (fun g hg => by omega)
  refine lp_seq (fun j => (sC o (growA sg j) M, nI j)) 0 G (by omega) (fun j _ hj => ?_) ?_
  · have q : ¬ nI G ≤ nI j := fun q => by have := (nI_leI (by omega) (by omega)).mp q; omega
    have q2 : inb (nI j) 8 := (inbN (by omega)).mpr (by omega)
    have e : growA sg j (19 + 2 * j) = sg (19 + 2 * j) := growA_o j (fun g hg => by omega)
    show bb_X7_passTides_100 Z (sC o (growA sg j) M) o x1 x2 x3 (nI j) = _
    unfold bb_X7_passTides_100
    rw [ck_t (cT0 L), sC_I0, e0, h, if_neg q, dr_s (cR0_6 L), ck_t (cT1 L), cL1 L, ck_t q2, nI_clamp (by omega), dr_s (cRrg L (by omega)), ck_t (cTg L (by omega)), s7_gGrow L (by omega), bd_S, e]
    all_goals ((try simp only [lw_S, nI_1]); (try rfl))
  · have q : nI G ≤ nI G := nI_le (Nat.le_refl _) (by omega)
    show bb_X7_passTides_100 Z (sC o (growA sg G) M) o x1 x2 x3 (nI G) = _
    unfold bb_X7_passTides_100
    rw [ck_t (cT0 L), sC_I0, e0, h, if_pos q, sC_I0, e0, sC_W0]
    all_goals ((try simp only [lw_S, nI_1]); (try rfl))
theorem s7_p64 {Z pg : Nat → Nat} {M : gMem} {o len np ng F G : Nat} {sg : Nat → Nat → Int32} {x1 x2 x3 : Int32} (L : LC o M) (W : WW Z pg o len M F G np ng sg) : lp_X7_passTides_64 Z (sC o sg M) o x1 x2 x3 (nI 0) = some (.inl (sC o (up2 (growA (stA (splitsA sg np) F) G) 0 0 (sg 0 0 + 1)) M, x2 + sumN (fun i => splitsA sg np (34 + 2 * i) 5) F, x3 + 1)) := by
  obtain ⟨P, W, D⟩ := W
  have hF : F ≤ 8 := W.2.2.2.1
  have hG : G ≤ 8 := W.2.1
  have hnp : np ≤ 6 := W.2.2.2.2.1.2.1
  have ht : ∀ n, n ≤ np → WS (splitsA sg n) F G np ng := fun n hn => WS_c (splitsA_W W D n hn).1 W
  unfold lp_X7_passTides_64
  refine lp_seq (fun j => (sC o (splitsA sg j) M, nI j)) 0 np (by omega) (fun j _ hj => ?_) ?_
  · have q : ¬ nI np ≤ nI j := fun q => by have := (nI_leI (by omega) (by omega)).mp q; omega
    have q2 : inb (nI j) 6 := (inbN (by omega)).mpr (by omega)
    have W' := ht j (by omega)
    obtain ⟨m, m1, m2, m3, m4⟩ := WS_p W' hj
    have hs : f_X7_split (sC o (splitsA sg j) M) o (some (o + (74 + 2 * j))) = some ((), sC o (splitsA sg (j + 1)) M) := by
      rw [splitsA]
      by_cases c : 0 ≤ splitsA sg j (74 + 2 * j) 0
      · rw [if_pos c]; exact s7_split0 L (by omega) c
      · rw [if_neg c, m3, nI_clamp (by omega)]; exact s7_split L (by omega) m1 m2 m3 m4 c
    show bb_X7_passTides_64 Z (sC o (splitsA sg j) M) o x1 x2 x3 (nI j) = _
    unfold bb_X7_passTides_64
    rw [ck_t (cT0 L), sC_I0, W'.2.2.2.2.1.1, if_neg q, dr_s (cR0_9 L), ck_t (cT4 L), cL4 L, ck_t q2, nI_clamp (by omega), cRrp L (by omega), hs, bd_S]
    all_goals ((try simp only [lw_S, nI_1]); (try rfl))
  · have q : nI np ≤ nI np := nI_le (Nat.le_refl _) (by omega)
    have W' := ht np (Nat.le_refl _)
    have e2 : stA (splitsA sg np) F 0 2 = nI G := by rw [stA_o F (fun f hf => by omega), W'.1]
    have e0 : stA (splitsA sg np) F 0 0 = sg 0 0 := by
      rw [stA_o F (fun f hf => by omega)]
      have : ∀ n, n ≤ np → splitsA sg n 0 0 = sg 0 0 := by
        intro n
        induction n with
        | zero => exact fun _ => rfl
        | succ n ih =>
          intro hn
          obtain ⟨m, m1, m2, m3, m4⟩ := WS_p (ht n (by omega)) (show n < np by omega)
          rw [splitsA]
          by_cases c : 0 ≤ splitsA sg n (74 + 2 * n) 0
          · rw [if_pos c]; exact ih (by omega)
          · rw [if_neg c, m3, nI_clamp (by omega), splA_o m4 m1 (fun f hf => by omega) (by omega)]; exact ih (by omega)
      exact this np (Nat.le_refl _)
    show bb_X7_passTides_64 Z (sC o (splitsA sg np) M) o x1 x2 x3 (nI np) = _
    unfold bb_X7_passTides_64
    rw [ck_t (cT0 L), sC_I0, W'.2.2.2.2.1.1, if_pos q, s7_storeCatches L W'.2.2.1 hF, bd_S, show ((0 : Int32)) = nI 0 from rfl, s7_p100 L e2 hG, e0]
    all_goals ((try simp only [lw_S, nI_1]); (try rfl))
/-- a tide -/
noncomputable def tideP (pg : Nat → Nat) (len np ng F G : Nat) (A : Nat → Nat → Int32) : Nat → Nat → Int32 :=
  splitsA (fleetA pg len np ng (ltA F (A 0 1)) (boat0 (up2 A 0 1 (lkA F (A 0 1))) G) F) np
noncomputable def tideA (pg : Nat → Nat) (len np ng F G : Nat) (A : Nat → Nat → Int32) : Nat → Nat → Int32 :=
  up2 (growA (stA (tideP pg len np ng F G A) F) G) 0 0 (A 0 0 + 1)
noncomputable def tidesA (pg : Nat → Nat) (len np ng F G : Nat) (A : Nat → Nat → Int32) : Nat → Nat → Nat → Int32
  | 0 => A
  | n + 1 => tideA pg len np ng F G (tidesA pg len np ng F G A n)
/-- what n tides bring -/
noncomputable def incA (pg : Nat → Nat) (len np ng F G : Nat) (A : Nat → Nat → Int32) : Nat → Int32
  | 0 => 0
  | n + 1 => incA pg len np ng F G A n + sumN (fun i => tideP pg len np ng F G (tidesA pg len np ng F G A n) (34 + 2 * i) 5) F
theorem boat0_nz {A : Nat → Nat → Int32} : ∀ n, nz (boat0 A n) = boat0 (nz A) n
  | 0 => rfl
  | n + 1 => by rw [boat0, boat0, nz_up2 (by omega), boat0_nz n]
theorem boat0_W {A : Nat → Nat → Int32} {F G : Nat} (hF : F ≤ 8) (hG : G ≤ 8) (D : WD A F G) : eqT A (boat0 A G) ∧ WD (boat0 A G) F G := by
  have key : ∀ n d k, n ≤ 8 → ¬ (18 ≤ d ∧ d < 34 ∧ d % 2 = 0 ∧ k = 1) → boat0 A n d k = A d k := by
    intro n d k
    induction n with
    | zero => exact fun _ _ => rfl
    | succ n ih => intro hn h; rw [boat0, up2_ne (by omega)]; exact ih (by omega) h
  refine ⟨fun d k t => ?_, fun g hg => okG_c (fun s => key G _ _ hG (by omega)) (D.1 g hg), fun f hf => okF_c (fun k _ => key G _ _ hG (by omega)) (D.2 f hf)⟩
  unfold told at t
  exact key G d k hG (by omega)
theorem tide_W {pg : Nat → Nat} {len np ng F G : Nat} {A : Nat → Nat → Int32} (W : WS A F G np ng) (D : WD A F G) : (eqT A (tideP pg len np ng F G A) ∧ WD (tideP pg len np ng F G A) F G) ∧ eqT A (tideA pg len np ng F G A) ∧ WD (tideA pg len np ng F G A) F G := by
  have hF : F ≤ 8 := W.2.2.2.1
  have hG : G ≤ 8 := W.2.1
  have t1 : eqT A (up2 A 0 1 (lkA F (A 0 1))) := eqT_2 (by unfold told; omega)
  have d1 : WD (up2 A 0 1 (lkA F (A 0 1))) F G := ⟨fun g hg => okG_c (fun s => up2_ne (by omega)) (D.1 g hg), fun f hf => okF_c (fun k _ => up2_ne (by omega)) (D.2 f hf)⟩
  obtain ⟨t2, d2⟩ := boat0_W hF hG d1
  have t2 := eqT_t t1 t2
  obtain ⟨t3, d3⟩ := fleetA_W (pg := pg) (len := len) (lf := ltA F (A 0 1)) (WS_c t2 W) d2 F (fun i hi => ltA_lt (by omega) hi)
  have t3 := eqT_t t2 t3
  obtain ⟨t4, d4⟩ := splitsA_W (WS_c t3 W) d3 np (Nat.le_refl _)
  have t4 := eqT_t t3 t4
  have s5 : ∀ d k, ¬ (34 ≤ d ∧ d < 50 ∧ d % 2 = 0 ∧ k = 4) → stA (tideP pg len np ng F G A) F d k = tideP pg len np ng F G A d k := fun d k h => stA_o F (fun f hf => by omega)
  have t5 : eqT A (stA (tideP pg len np ng F G A) F) := eqT_t t4 (fun d k t => by unfold told at t; exact s5 d k (by omega))
  have d5 : WD (stA (tideP pg len np ng F G A) F) F G := ⟨fun g hg => okG_c (fun s => s5 _ _ (by omega)) (d4.1 g hg), fun f hf => okF_c (fun k _ => s5 _ _ (by omega)) (d4.2 f hf)⟩
  obtain ⟨t6, d6⟩ := growA_W hF hG d5
  refine ⟨⟨t4, d4⟩, eqT_t t5 (eqT_t t6 (eqT_2 (by unfold told; omega))), ⟨fun g hg => okG_c (fun s => up2_ne (by omega)) (d6.1 g hg), fun f hf => okF_c (fun k _ => up2_ne (by omega)) (d6.2 f hf)⟩⟩
theorem tides_W {pg : Nat → Nat} {len np ng F G : Nat} {A : Nat → Nat → Int32} (W : WS A F G np ng) (D : WD A F G) : ∀ n, eqT A (tidesA pg len np ng F G A n) ∧ WD (tidesA pg len np ng F G A n) F G
  | 0 => ⟨eqT_r A, D⟩
  | n + 1 => by
    obtain ⟨h1, h2⟩ := tides_W (pg := pg) (len := len) W D n
    obtain ⟨-, h3, h4⟩ := tide_W (pg := pg) (len := len) (WS_c h1 W) h2
    exact ⟨eqT_t h1 h3, h4⟩
theorem s7_tide {Z pg : Nat → Nat} {M : gMem} {o len np ng F G n j : Nat} {sg : Nat → Nat → Int32} {x : Int32} (L : LC o M) (W : WW Z pg o len M F G np ng sg) (hn : n < 2 ^ 31) (hj : j < n) : ∃ sg', bb_X7_passTides_4 Z (sC o sg M) o (nI n) x (nI j) = some (.inl (sC o sg' M, x + sumN (fun i => tideP pg len np ng F G (nz sg) (34 + 2 * i) 5) F, nI (j + 1))) ∧ nz sg' = tideA pg len np ng F G (nz sg) := by
  have hF : F ≤ 8 := W.2.1.2.2.2.1
  have hG : G ≤ 8 := W.2.1.2.1
  obtain ⟨s1, h1, z1, l1⟩ := s7_draw (M := M) L W.2.1.2.2.1 hF
  have e01 : nz sg 0 1 = sg 0 1 := by rw [nz_e (by omega)]
  have e00 : nz sg 0 0 = sg 0 0 := by rw [nz_e (by omega)]
  have W0 : WS (nz sg) F G np ng := WS_c (eqT_nz sg) W.2.1
  have D0 : WD (nz sg) F G := WD_nz.mpr W.2.2
  obtain ⟨s2, hs2⟩ : ∃ s2, s2 = boat0 (up2 s1 0 1 (lkA F (sg 0 1))) G := ⟨_, rfl⟩
  have z2 : nz s2 = boat0 (up2 (nz sg) 0 1 (lkA F (sg 0 1))) G := by rw [hs2, boat0_nz, nz_up2 (by omega), z1]
  have t1 : eqT (nz sg) (up2 (nz sg) 0 1 (lkA F (sg 0 1))) := eqT_2 (by unfold told; omega)
  have d1 : WD (up2 (nz sg) 0 1 (lkA F (sg 0 1))) F G := ⟨fun g hg => okG_c (fun s => up2_ne (by omega)) (D0.1 g hg), fun f hf => okF_c (fun k _ => up2_ne (by omega)) (D0.2 f hf)⟩
  obtain ⟨t2, d2⟩ := boat0_W hF hG d1
  have t2 := eqT_t t1 t2
  have W2 : WW Z pg o len M F G np ng s2 := WW_c W (by rw [z2]; exact t2) (by rw [z2]; exact d2)
  have l2 : ∀ i, i < F → s2 9 i = nI (ltA F (sg 0 1) i) ∧ ltA F (sg 0 1) i < F := by
    intro i hi
    refine ⟨?_, ltA_lt (by omega) hi⟩
    rw [hs2, boat0_o (by omega), up2_ne (by omega), l1 i hi]
  have l2' : ∀ i, i < F → s2 9 i = nI (ltA F (nz sg 0 1) i) ∧ ltA F (nz sg 0 1) i < F := by rw [e01]; exact l2
  have hb : ∀ s3, nz s3 = fleetA pg len np ng (ltA F (nz sg 0 1)) (nz s2) F → ∃ s4, (lp_X7_passTides_64 Z (sC o s3 M) o (nI n) x (nI j) (nI 0) = some (.inl (sC o s4 M, x + sumN (fun i => tideP pg len np ng F G (nz sg) (34 + 2 * i) 5) F, nI j + 1))) ∧ nz s4 = tideA pg len np ng F G (nz sg) := by
    intro s3 z3
    have D2 : WD (nz s2) F G := WD_nz.mpr W2.2.2
    have S2 : WS (nz s2) F G np ng := WS_c (eqT_nz s2) W2.2.1
    obtain ⟨t3, d3⟩ := fleetA_W (pg := pg) (len := len) (lf := ltA F (nz sg 0 1)) S2 D2 F (fun i hi => (l2' i hi).2)
    rw [← z3] at t3 d3
    have W3 : WW Z pg o len M F G np ng s3 := WW_c W2 t3 d3
    have e4 : nz (splitsA s3 np) = tideP pg len np ng F G (nz sg) := by
      rw [splits_nz W3.2.1 W3.2.2 np (Nat.le_refl _), z3, z2, ← e01]
      all_goals ((try simp only [lw_S, nI_1]); (try rfl))
    have e5 : (fun i => splitsA s3 np (34 + 2 * i) 5) = fun i => tideP pg len np ng F G (nz sg) (34 + 2 * i) 5 := by
      funext i
      rw [← e4, nz_e (by omega)]
    have e6 : s3 0 0 = sg 0 0 := by
      have f0 : ∀ m, m ≤ F → fleetA pg len np ng (ltA F (nz sg 0 1)) (nz s2) m 0 0 = nz s2 0 0 := by
        intro m
        induction m with
        | zero => exact fun _ => rfl
        | succ m ih =>
          intro hm
          obtain ⟨t, d⟩ := fleetA_W (pg := pg) (len := len) (lf := ltA F (nz sg 0 1)) S2 D2 m (fun i hi => (l2' i (by omega)).2)
          have hl := (l2' m (by omega)).2
          rw [← ih (by omega), fleetA, goA]
          rcases fgo_v (pg := pg) (len := len) (f := ltA F (nz sg 0 1) m) (WS_c t S2) ng 0 (by omega) with h | ⟨g, hg, h⟩
          · rw [if_pos h, homeA_o (by omega)]
          · have q : ¬ nI g = -1 := nI_nm1 (by omega)
            rw [h, if_neg q, nI_clamp (by omega), sailA_o (by omega) (by omega) (by omega) (by omega)]
      have := f0 F (Nat.le_refl _)
      rw [← z3, nz_e (by omega), nz_e (by omega)] at this
      rw [this, hs2, boat0_o (by omega), up2_ne (by omega), ← e00, ← z1, nz_e (by omega)]
    refine ⟨_, by rw [s7_p64 L W3, e5], ?_⟩
    rw [nz_up2 (by omega), grow_nz, st_nz, e4, e6, ← e00]
    all_goals ((try simp only [lw_S, nI_1]); (try rfl))
  obtain ⟨b, hbb⟩ : ∃ b, (∃ s4, b = (.inl (sC o s4 M, x + sumN (fun i => tideP pg len np ng F G (nz sg) (34 + 2 * i) 5) F, nI j + 1) : (gMem × Int32 × Int32) ⊕ (Int32 × gMem)) ∧ nz s4 = tideA pg len np ng F G (nz sg)) ∧ lp_X7_passTides_24 Z (sC o s2 M) o (nI n) x (nI j) (nI 0) = some b := by
    have D2 : WD (nz s2) F G := WD_nz.mpr W2.2.2
    have q := s7_fleet2 (x1 := nI n) (x2 := x) (x3 := nI j) L W2 l2'
    obtain ⟨s3, z3, e3⟩ := q
    obtain ⟨s4, h4, z4⟩ := hb s3 z3
    exact ⟨_, ⟨s4, rfl, z4⟩, e3.trans h4⟩
  obtain ⟨⟨s4, rfl, z4⟩, h24⟩ := hbb
  refine ⟨s4, ?_, z4⟩
  have q : ¬ nI n ≤ nI j := fun q => by have := (nI_leI (by omega) (by omega)).mp q; omega
  have eb : up2 s1 0 1 (lkA F (sg 0 1)) 0 2 = nI G := by
    rw [up2_ne (by omega)]
    have : nz s1 0 2 = nz sg 0 2 := by rw [z1]
    rw [nz_e (by omega), nz_e (by omega)] at this
    rw [this, W.2.1.1]
  unfold bb_X7_passTides_4
  rw [if_neg q, ck_t (cT0 L), h1, bd_S, ck_t (cT0 L), sC_W0]
  simp only [lw_S]
  rw [s7_callBoatsHome L eb hG, bd_S, ← hs2, show ((0 : Int32)) = nI 0 from rfl, h24, nI_1]
theorem s7_passTides {Z pg : Nat → Nat} {M : gMem} {o len np ng F G n : Nat} {sg : Nat → Nat → Int32} (L : LC o M) (W : WW Z pg o len M F G np ng sg) (hn : n < 2 ^ 31) : ∃ sg', f_X7_passTides Z (sC o sg M) o (nI n) = some (incA pg len np ng F G (nz sg) n, sC o sg' M) ∧ nz sg' = tidesA pg len np ng F G (nz sg) n := by
  have W0 : WS (nz sg) F G np ng := WS_c (eqT_nz sg) W.2.1
  have D0 : WD (nz sg) F G := WD_nz.mpr W.2.2
  have key : ∀ d j sg', j + d = n → nz sg' = tidesA pg len np ng F G (nz sg) j → ∃ sg2, lp_X7_passTides_4 Z (sC o sg' M) o (nI n) (incA pg len np ng F G (nz sg) j) (nI j) = some (incA pg len np ng F G (nz sg) n, sC o sg2 M) ∧ nz sg2 = tidesA pg len np ng F G (nz sg) n := by
    intro d
    induction d with
    | zero =>
      intro j sg' hj hz
      have : j = n := by omega
      subst this
      refine ⟨sg', ?_, hz⟩
      unfold lp_X7_passTides_4
      refine lp_out ?_
      have q : nI j ≤ nI j := nI_le (Nat.le_refl _) hn
      show bb_X7_passTides_4 Z (sC o sg' M) o (nI j) _ (nI j) = _
      unfold bb_X7_passTides_4
      rw [if_pos q]
      all_goals ((try simp only [lw_S, nI_1]); (try rfl))
    | succ d ih =>
      intro j sg' hj hz
      obtain ⟨t, dd⟩ := tides_W (pg := pg) (len := len) W0 D0 j
      rw [← hz] at t dd
      obtain ⟨s2, h1, z1⟩ := s7_tide (x := incA pg len np ng F G (nz sg) j) L (WW_c W t dd) hn (show j < n by omega)
      obtain ⟨s3, h3, z3⟩ := ih (j + 1) s2 (by omega) (by rw [z1, hz]; rfl)
      refine ⟨s3, ?_, z3⟩
      rw [← h3]
      unfold lp_X7_passTides_4
      refine lp_in (h1.trans ?_)
      rw [hz]
      all_goals ((try simp only [lw_S, nI_1]); (try rfl))
  obtain ⟨s2, h, z⟩ := key n 0 sg (by omega) rfl
  exact ⟨s2, h, z⟩

