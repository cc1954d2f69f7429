/-! ## Pure: a tide -/
theorem drS_c {sg sg' : Nat → Nat → Int32} {n : Nat} {x : Int32} (hn : n < 2 ^ 31) : ∀ j, j ≤ n → (drS sg n x j).2 = (drS sg' n x j).2 ∧ (∀ k, k < n - j → (drS sg n x j).1 10 k = (drS sg' n x j).1 10 k ∧ ∃ v, v < n ∧ (drS sg n x j).1 10 k = nI v) ∧ ∀ i, i < j → (drS sg n x j).1 9 i = (drS sg' n x j).1 9 i ∧ ∃ v, v < n ∧ (drS sg n x j).1 9 i = nI v
  | 0, _ => ⟨rfl, fun k hk => by
      have hk : k < n := hk
      simp only [drS, row0, up1_e, if_pos hk]
      exact ⟨trivial, k, hk, rfl⟩, fun i hi => absurd hi (Nat.not_lt_zero i)⟩
  | j + 1, hj => by
    obtain ⟨h1, h2, h3⟩ := drS_c (sg := sg) (sg' := sg') (x := x) hn j (by omega)
    have hp := drP_lt (y := drN (drS sg n x j).2) (k := n - j) (by omega) (by omega)
    simp only [drS]
    rw [← h1]
    generalize drP (drN (drS sg n x j).2) (n - j) = p at hp
    refine ⟨rfl, fun k hk => ?_, fun i hi => ?_⟩
    · rw [up1_e, up1_e]
      unfold shD
      by_cases c : p ≤ k ∧ k + 1 < n - j
      · rw [if_pos c, if_pos c]
        exact h2 (k + 1) c.2
      · rw [if_neg c, if_neg c]
        exact h2 k (by omega)
    · rw [up1_o (by omega), up1_o (by omega)]
      by_cases c : i = j
      · subst c
        rw [up2_eq, up2_eq]
        exact h2 p hp
      · rw [up2_ne (.inr c), up2_ne (.inr c)]
        exact h3 i (by omega)
/-- the number l behind a tide's lots, and the fisher with lot i, of n fishers -/
def lkA (n : Nat) (x : Int32) : Int32 := (drS (fun _ _ => 0) n x n).2
def ltA (n : Nat) (x : Int32) (i : Nat) : Nat := ((drS (fun _ _ => 0) n x n).1 9 i).toNatClampNeg
theorem ltA_lt {n i : Nat} {x : Int32} (hn : n < 2 ^ 31) (hi : i < n) : ltA n x i < n := by
  obtain ⟨-, v, hv, e⟩ := (drS_c (sg := fun _ _ => 0) (sg' := fun _ _ => 0) (x := x) hn n (Nat.le_refl _)).2.2 i hi
  unfold ltA
  rw [e, nI_clamp (by omega)]
  exact hv
theorem s7_draw {M : gMem} {o n : Nat} {sg : Nat → Nat → Int32} (L : LC o M) (h : sg 0 3 = nI n) (hn : n ≤ 8) : ∃ sg', f_X7_drawLots (sC o sg M) o = some (lkA n (sg 0 1), sC o sg' M) ∧ nz sg' = nz sg ∧ ∀ i, i < n → sg' 9 i = nI (ltA n (sg 0 1) i) := by
  obtain ⟨h1, -, h3⟩ := drS_c (sg := sg) (sg' := fun _ _ => 0) (x := sg 0 1) (show n < 2 ^ 31 by omega) n (Nat.le_refl _)
  refine ⟨(drS sg n (sg 0 1) n).1, ?_, ?_, fun i hi => ?_⟩
  · rw [s7_drawLots L h hn, h1]
    all_goals ((try simp only [lw_S, nI_1]); (try rfl))
  · refine nz_of fun d hd => ?_
    exact drS_o (by omega) n
  · obtain ⟨e, v, hv, ev⟩ := h3 i hi
    unfold ltA
    rw [← e, ev, nI_clamp (by omega)]
/-- what a text tells and a tide leaves -/
def told (d k : Nat) : Prop := (d = 0 ∧ 2 ≤ k) ∨ d = 5 ∨ d = 7 ∨ (18 ≤ d ∧ d < 34 ∧ d % 2 = 0 ∧ k = 0) ∨ (34 ≤ d ∧ d < 50 ∧ d % 2 = 0 ∧ (k = 0 ∨ k = 2 ∨ k = 3 ∨ k = 9)) ∨ (50 ≤ d ∧ d < 74) ∨ (74 ≤ d ∧ d % 2 = 0 ∧ k ≤ 4) ∨ (74 ≤ d ∧ d % 2 = 1)
def eqT (A A' : Nat → Nat → Int32) : Prop := ∀ d k, told d k → A' d k = A d k
theorem eqT_r (A : Nat → Nat → Int32) : eqT A A := fun _ _ _ => rfl
theorem eqT_t {A B C : Nat → Nat → Int32} (h : eqT A B) (h2 : eqT B C) : eqT A C := fun d k t => (h2 d k t).trans (h d k t)
theorem eqT_2 {A : Nat → Nat → Int32} {d k : Nat} {v : Int32} (h : ¬ told d k) : eqT A (up2 A d k v) := fun b j t => by
  refine up2_ne ?_
  by_cases q : b = d
  · exact .inr fun z => h (by rw [← q, ← z]; exact t)
  · exact .inl q
theorem eqT_1 {A : Nat → Nat → Int32} {d : Nat} {r : Nat → Int32} (h : ∀ k, ¬ told d k) : eqT A (up1 A d r) := fun b j t => by
  rw [up1_o fun q => h j (by rw [← q]; exact t)]
theorem eqT_nz (A : Nat → Nat → Int32) : eqT A (nz A) := fun d k t => by
  unfold told at t
  rw [nz_e (by omega)]
theorem eqT_Z {A A' : Nat → Nat → Int32} (h : eqZ A A') : eqT A A' := fun d k t => by
  unfold told at t
  rw [h d (by omega)]
/-- a Shore as a text has told it: grounds, fishers, pacts, goes -/
def WS (A : Nat → Nat → Int32) (F G np ng : Nat) : Prop :=
  A 0 2 = nI G ∧ G ≤ 8 ∧ A 0 3 = nI F ∧ F ≤ 8 ∧ PK A np ∧ GO A ng ∧
  (∀ i, i < ng → (∃ f, f < F ∧ A (50 + i) 0 = nI f) ∧ ∃ g, g < G ∧ A (50 + i) 1 = nI g) ∧
  (∀ p, p < np → ∃ n, 1 ≤ n ∧ n ≤ 8 ∧ A (74 + 2 * p) 3 = nI n ∧ ∀ i, i < n → ∃ f, f < F ∧ A (75 + 2 * p) i = nI f)
def WD (A : Nat → Nat → Int32) (F G : Nat) : Prop := (∀ g, g < G → okG A g) ∧ ∀ f, f < F → okF A f
theorem WS_c {A A' : Nat → Nat → Int32} {F G np ng : Nat} (h : eqT A A') (W : WS A F G np ng) : WS A' F G np ng := by
  obtain ⟨a1, a2, a3, a4, ⟨b1, b2, b3⟩, ⟨c1, c2, c3⟩, d, e⟩ := W
  have hp : ∀ p k, p < np → k ≤ 4 → A' (74 + 2 * p) k = A (74 + 2 * p) k := fun p k hp hk => h _ _ (by unfold told; omega)
  have hm : ∀ p k, p < np → A' (75 + 2 * p) k = A (75 + 2 * p) k := fun p k hp => h _ _ (by unfold told; omega)
  have hg : ∀ i k, i < ng → A' (50 + i) k = A (50 + i) k := fun i k hi => h _ _ (by unfold told; omega)
  have h0 : ∀ k, 2 ≤ k → A' 0 k = A 0 k := fun k hk => h _ _ (by unfold told; omega)
  refine ⟨by rw [h0 2 (by omega), a1], a2, by rw [h0 3 (by omega), a3], a4, ⟨by rw [h0 5 (by omega), b1], b2, fun p q => ?_⟩, ⟨by rw [h0 4 (by omega), c1], c2, fun i q => ?_⟩, fun i q => ?_, fun p q => ?_⟩
  · rw [hp p 3 q (by omega), hp p 1 q (by omega), hp p 2 q (by omega)]
    exact b3 p q
  · rw [hg i 0 q, hg i 1 q, hg i 2 q, hg i 3 q]
    exact c3 i q
  · rw [hg i 0 q, hg i 1 q]
    exact d i q
  · obtain ⟨n, n1, n2, n3, n4⟩ := e p q
    exact ⟨n, n1, n2, by rw [hp p 3 q (by omega), n3], fun i hi => by rw [hm p i q]; exact n4 i hi⟩
theorem fgo_v {pg : Nat → Nat} {len np ng F G f : Nat} {A : Nat → Nat → Int32} (W : WS A F G np ng) : ∀ d i, i + d ≤ ng → fgo pg len np A f d i = -1 ∨ ∃ g, g < G ∧ fgo pg len np A f d i = nI g
  | 0, _, _ => .inl rfl
  | d + 1, i, h => by
    unfold fgo
    by_cases c : goOK pg len np A f i
    · rw [cif_t c]
      obtain ⟨-, g, hg, e⟩ := W.2.2.2.2.2.2.1 i (by omega)
      exact .inr ⟨g, hg, e⟩
    · rw [cif_f c]
      exact fgo_v W d (i + 1) (by omega)
/-- where a sail leaves all as it was -/
theorem thereA_o {A : Nat → Nat → Int32} {f g d k : Nat} (h1 : d ≠ 34 + 2 * f ∨ (k ≠ 5 ∧ k ≠ 6)) (h2 : d ≠ 18 + 2 * g ∨ k ≠ 1) : thereA A f g d k = A d k := by
  unfold thereA
  rw [up2_ne h2, up2_ne (by omega), up2_ne (by omega)]
theorem tornA_o {A : Nat → Nat → Int32} {f g d k : Nat} (h1 : d ≠ 34 + 2 * f ∨ (k ≠ 5 ∧ k ≠ 6 ∧ k ≠ 1 ∧ k ≠ 7)) (h2 : d ≠ 18 + 2 * g ∨ k ≠ 1) : tornA A f g d k = A d k := by
  unfold tornA
  by_cases c : (hlA A g f).2.2.2 = 0
  · rw [if_pos c, thereA_o (by omega) h2]
  · rw [if_neg c]
    unfold tearA
    rw [up2_ne (by omega), up2_ne (by omega), thereA_o (by omega) h2]
theorem sailA_o {A : Nat → Nat → Int32} {f g d k : Nat} (h1 : d ≠ 34 + 2 * f ∨ (k ≠ 5 ∧ k ≠ 6 ∧ k ≠ 1 ∧ k ≠ 7 ∧ k ≠ 8)) (h2 : d ≠ 18 + 2 * g ∨ (k ≠ 1 ∧ k ≠ 2)) (h3 : d ≠ 19 + 2 * g) (h4 : d ≠ 35 + 2 * f ∨ k ≠ g) : sailA A f g d k = A d k := by
  unfold sailA ldA lhN
  rw [up2_ne h4, up2_ne (by omega), up2_ne (by omega), up1_o h3, up2_ne (by omega), tornA_o (by omega) (by omega)]
theorem sailA_fish {A : Nat → Nat → Int32} {f g s : Nat} (hf : f < 8) (hg : g < 8) : sailA A f g (19 + 2 * g) s = fsN (A (19 + 2 * g)) (hlA A g f).1 (tornA A f g (34 + 2 * f) 1).toNatClampNeg 5 s := by
  unfold sailA ldA lhN
  have e : tornA A f g (19 + 2 * g) = A (19 + 2 * g) := by
    funext k; exact tornA_o (by omega) (by omega)
  rw [up2_ne (by omega), up2_ne (by omega), up2_ne (by omega), up1_e, e]
theorem sailA_mesh {A : Nat → Nat → Int32} {f g : Nat} (hf : f < 8) (hg : g < 8) : sailA A f g (34 + 2 * f) 1 = if (hlA A g f).2.2.2 = 0 then A (34 + 2 * f) 1 else imin (A (34 + 2 * f) 1 + nI 1) (nI 6) := by
  unfold sailA ldA lhN
  rw [up2_ne (by omega), up2_ne (by omega), up2_ne (by omega), up1_o (by omega), up2_ne (by omega)]
  unfold tornA
  by_cases c : (hlA A g f).2.2.2 = 0
  · rw [if_pos c, if_pos c, thereA_o (by omega) (by omega)]
  · rw [if_neg c, if_neg c]
    unfold tearA
    rw [up2_ne (by omega), up2_eq, thereA_o (by omega) (by omega)]
theorem sailA_T {A : Nat → Nat → Int32} {f g : Nat} (hf : f < 8) (hg : g < 8) : eqT A (sailA A f g) := fun d k t => by
  unfold told at t
  exact sailA_o (by omega) (by omega) (by omega) (by omega)
theorem homeA_o {A : Nat → Nat → Int32} {f d k : Nat} (h : d ≠ 34 + 2 * f ∨ (k ≠ 5 ∧ k ≠ 6)) : homeA A f d k = A d k := by
  unfold homeA
  rw [up2_ne (by omega), up2_ne (by omega)]
theorem homeA_T {A : Nat → Nat → Int32} {f : Nat} (hf : f < 8) : eqT A (homeA A f) := fun d k t => by
  unfold told at t
  exact homeA_o (by omega)
theorem okG_c {A A' : Nat → Nat → Int32} {g : Nat} (h : ∀ s, A' (19 + 2 * g) s = A (19 + 2 * g) s) (o : okG A g) : okG A' g := fun s h1 h2 => by
  rw [h]; exact o s h1 h2
theorem okF_c {A A' : Nat → Nat → Int32} {f : Nat} (h : ∀ k, k = 1 ∨ k = 2 ∨ k = 3 → A' (34 + 2 * f) k = A (34 + 2 * f) k) (o : okF A f) : okF A' f := by
  unfold okF
  rw [h 1 (by omega), h 2 (by omega), h 3 (by omega)]; exact o
theorem sailA_D {A : Nat → Nat → Int32} {f g F G : Nat} (hF : F ≤ 8) (hG : G ≤ 8) (hf : f < F) (hg : g < G) (W : WD A F G) : WD (sailA A f g) F G := by
  obtain ⟨W1, W2⟩ := W
  constructor
  · intro g' hg'
    by_cases c : g' = g
    · subst c
      intro s h1 h2
      rw [sailA_fish (by omega) (by omega)]
      obtain ⟨n, hn, en⟩ := W1 g' hg s h1 h2
      unfold fsN
      by_cases q : (tornA A f g' (34 + 2 * f) 1).toNatClampNeg ≤ s ∧ 1 ≤ s ∧ s ≤ 5
      · rw [if_pos q]
        have b := ((hlN_b (fk := fun s => (A (19 + 2 * g') s).toNatClampNeg) (h := (A (34 + 2 * f) 3).toNatClampNeg) (w := (A (34 + 2 * f) 2).toNatClampNeg) (m := (A (34 + 2 * f) 1).toNatClampNeg) 5).2.2.2.2.2 s).1
        simp only [en, nI_clamp (show n < 2 ^ 31 by omega)] at b
        refine ⟨n - (hlA A g' f).1 s, by omega, ?_⟩
        rw [en]
        exact nI_sub b
      · rw [if_neg q]
        exact ⟨n, hn, en⟩
    · exact okG_c (fun s => sailA_o (by omega) (by omega) (by omega) (by omega)) (W1 g' hg')
  · intro f' hf'
    by_cases c : f' = f
    · subst c
      obtain ⟨⟨m, m1, m2, em⟩, o2, o3⟩ := W2 f' hf
      refine ⟨?_, ?_, ?_⟩
      · rw [sailA_mesh (by omega) (by omega)]
        by_cases q : (hlA A g f').2.2.2 = 0
        · rw [if_pos q]; exact ⟨m, m1, m2, em⟩
        · rw [if_neg q, em, imin6 m2]
          exact ⟨min (m + 1) 6, by omega, by omega, rfl⟩
      · rw [sailA_o (by omega) (by omega) (by omega) (by omega)]; exact o2
      · rw [sailA_o (by omega) (by omega) (by omega) (by omega)]; exact o3
    · exact okF_c (fun k hk => sailA_o (by omega) (by omega) (by omega) (by omega)) (W2 f' hf')
theorem homeA_D {A : Nat → Nat → Int32} {f F G : Nat} (W : WD A F G) (hf : f < 8) (hG : G ≤ 8) : WD (homeA A f) F G :=
  ⟨fun g' hg' => okG_c (fun s => homeA_o (by omega)) (W.1 g' hg'), fun f' hf' => okF_c (fun k hk => homeA_o (by omega)) (W.2 f' hf')⟩
/-- a fisher's turn -/
noncomputable def goA (pg : Nat → Nat) (len np ng : Nat) (A : Nat → Nat → Int32) (f : Nat) : Nat → Nat → Int32 :=
  if fgo pg len np A f ng 0 = -1 then homeA A f else sailA A f (fgo pg len np A f ng 0).toNatClampNeg
noncomputable def fleetA (pg : Nat → Nat) (len np ng : Nat) (lf : Nat → Nat) (A : Nat → Nat → Int32) : Nat → Nat → Nat → Int32
  | 0 => A
  | n + 1 => goA pg len np ng (fleetA pg len np ng lf A n) (lf n)
theorem nI_nm1 {g : Nat} (h : g < 2 ^ 31) : nI g ≠ -1 := fun e => nI_pos h (by rw [e]; decide)
theorem goA_W {pg : Nat → Nat} {len np ng F G f : Nat} {A : Nat → Nat → Int32} (W : WS A F G np ng) (D : WD A F G) (hf : f < F) : eqT A (goA pg len np ng A f) ∧ WD (goA pg len np ng A f) F G := by
  have hF : F ≤ 8 := W.2.2.2.1
  have hG : G ≤ 8 := W.2.1
  unfold goA
  rcases fgo_v (pg := pg) (len := len) (f := f) W ng 0 (by omega) with h | ⟨g, hg, h⟩
  · rw [if_pos h]
    exact ⟨homeA_T (by omega), homeA_D D (by omega) hG⟩
  · have q : ¬ nI g = -1 := nI_nm1 (by omega)
    rw [h, if_neg q, nI_clamp (by omega)]
    exact ⟨sailA_T (by omega) (by omega), sailA_D hF hG hf hg D⟩
theorem fleetA_W {pg : Nat → Nat} {len np ng F G : Nat} {lf : Nat → Nat} {A : Nat → Nat → Int32} (W : WS A F G np ng) (D : WD A F G) : ∀ n, (∀ i, i < n → lf i < F) → eqT A (fleetA pg len np ng lf A n) ∧ WD (fleetA pg len np ng lf A n) F G
  | 0, _ => ⟨eqT_r A, D⟩
  | n + 1, h => by
    obtain ⟨h1, h2⟩ := fleetA_W (pg := pg) (len := len) W D n (fun i hi => h i (by omega))
    obtain ⟨h3, h4⟩ := goA_W (pg := pg) (len := len) (WS_c h1 W) h2 (h n (by omega))
    exact ⟨eqT_t h1 h3, h4⟩
theorem s7_turn {Z pg : Nat → Nat} {M : gMem} {o len np ng F G f : Nat} {sg : Nat → Nat → Int32} (L : LC o M) (P : PG Z pg o len M sg) (W : WS sg F G np ng) (D : WD sg F G) (hf : f < F) : ∃ v sg1 sg2, f_X7_firstGo Z (sC o sg M) o (nI f) = some (v, sC o sg1 M) ∧ f_X7_sail (sC o sg1 M) o (nI f) v = some ((), sC o sg2 M) ∧ nz sg2 = goA pg len np ng (nz sg) f ∧ sg2 9 = sg 9 := by
  have hF : F ≤ 8 := W.2.2.2.1
  have hG : G ≤ 8 := W.2.1
  obtain ⟨sg1, e1, h1⟩ := s7_firstGo (f := f) L P W.2.2.2.2.1 W.2.2.2.2.2.1 (by omega)
  have z1 : nz sg1 = nz sg := nz_of (eqS_Z e1)
  have ef : fgo pg len np (nz sg) f ng 0 = fgo pg len np sg f ng 0 := fgo_congr (eqZ_nz sg) ng 0 (by have := W.2.2.2.2.2.1.2.1; omega)
  unfold goA
  rw [ef]
  rcases fgo_v (pg := pg) (len := len) (f := f) W ng 0 (by omega) with h | ⟨g, hg, h⟩
  · rw [if_pos h]
    rw [h] at h1
    refine ⟨-1, sg1, homeA sg1 f, h1, s7_home L (by omega), ?_, ?_⟩
    · unfold homeA
      rw [nz_up2 (by omega), nz_up2 (by omega), z1]
    · funext k
      rw [homeA_o (by omega), e1 9 (by omega)]
  · have q : ¬ nI g = -1 := nI_nm1 (by omega)
    rw [h, if_neg q, nI_clamp (by omega)]
    rw [h] at h1
    have G1 : okG sg1 g := okG_c (fun s => by rw [e1 _ (by omega)]) (D.1 g hg)
    have F1 : okF sg1 f := okF_c (fun k _ => by rw [e1 _ (by omega)]) (D.2 f hf)
    obtain ⟨sg2, h2, h3, h4⟩ := s7_sail (M := M) L (show f < 8 by omega) (show g < 8 by omega) G1 F1
    exact ⟨nI g, sg1, sg2, h1, h2, by rw [h3, z1], by rw [h4, e1 9 (by omega)]⟩
theorem PG_T {Z pg : Nat → Nat} {o len : Nat} {M : gMem} {sg sg' : Nat → Nat → Int32} (P : PG Z pg o len M sg) (h : eqT sg sg') : PG Z pg o len M sg' := PG_congr P (funext fun k => h 7 k (by unfold told; omega)) (funext fun k => h 5 k (by unfold told; omega))
theorem eqT_of {A B : Nat → Nat → Int32} (h : eqT (nz A) (nz B)) : eqT A B := fun d k t => by
  have := h d k t
  unfold told at t
  rw [nz_e (by omega), nz_e (by omega)] at this
  exact this
theorem WD_nz {A : Nat → Nat → Int32} {F G : Nat} : WD (nz A) F G ↔ WD A F G := by
  constructor
  · exact fun h => ⟨fun g hg => okG_c (fun s => by rw [nz_e (by omega)]) (h.1 g hg), fun f hf => okF_c (fun k _ => by rw [nz_e (by omega)]) (h.2 f hf)⟩
  · exact fun h => ⟨fun g hg => okG_c (fun s => by rw [nz_e (by omega)]) (h.1 g hg), fun f hf => okF_c (fun k _ => by rw [nz_e (by omega)]) (h.2 f hf)⟩
/-- a Shore in order, and what the memory says of its sums -/
def WW (Z pg : Nat → Nat) (o len : Nat) (M : gMem) (F G np ng : Nat) (sg : Nat → Nat → Int32) : Prop := PG Z pg o len M sg ∧ WS sg F G np ng ∧ WD sg F G
theorem WW_c {Z pg : Nat → Nat} {o len : Nat} {M : gMem} {F G np ng : Nat} {sg sg' : Nat → Nat → Int32} (W : WW Z pg o len M F G np ng sg) (h : eqT (nz sg) (nz sg')) (D : WD (nz sg') F G) : WW Z pg o len M F G np ng sg' :=
  ⟨PG_T W.1 (eqT_of h), WS_c (eqT_of h) W.2.1, WD_nz.mp D⟩
theorem s7_fleet2 {Z pg : Nat → Nat} {M : gMem} {o len np ng F G : Nat} {lf : Nat → Nat} {sg : Nat → Nat → Int32} {x1 x2 x3 : Int32} (L : LC o M) (W : WW Z pg o len M F G np ng sg) (hl : ∀ i, i < F → sg 9 i = nI (lf i) ∧ lf i < F) : ∃ sg', nz sg' = fleetA pg len np ng lf (nz sg) F ∧ lp_X7_passTides_24 Z (sC o sg M) o x1 x2 x3 (nI 0) = lp_X7_passTides_64 Z (sC o sg' M) o x1 x2 x3 (nI 0) := by
  have hF : F ≤ 8 := W.2.1.2.2.2.1
  have D0 : WD (nz sg) F G := WD_nz.mpr W.2.2
  have W0 : WS (nz sg) F G np ng := WS_c (eqT_nz sg) W.2.1
  have key : ∀ d n sg', n + d = F → nz sg' = fleetA pg len np ng lf (nz sg) n → sg' 9 = sg 9 → ∃ sg2, nz sg2 = fleetA pg len np ng lf (nz sg) F ∧ lp_X7_passTides_24 Z (sC o sg' M) o x1 x2 x3 (nI n) = lp_X7_passTides_64 Z (sC o sg2 M) o x1 x2 x3 (nI 0) := by
    intro d
    induction d with
    | zero =>
      intro n sg' hn hz h9
      have e0 : sg' 0 3 = nI F := by
        have W' := fleetA_W (pg := pg) (len := len) (lf := lf) W0 D0 n (fun i hi => (hl i (by omega)).2)
        have := W'.1 0 3 (by unfold told; omega)
        rw [← hz, nz_e (by omega), nz_e (by omega)] at this
        rw [this, W.2.1.2.2.1]
      have : n = F := by omega
      subst this
      refine ⟨sg', hz, ?_⟩
      have q : nI n ≤ nI n := nI_le (by omega) (by omega)
      have e : bb_X7_passTides_24 Z (sC o sg' M) o x1 x2 x3 (nI n) = oI (lp_X7_passTides_64 Z (sC o sg' M) o x1 x2 x3 (nI 0)) := by
        unfold bb_X7_passTides_24
        rw [ck_t (cT0 L), sC_I0, e0, if_pos q]
        all_goals ((try simp only [lw_S, nI_1]); (try rfl))
      conv => lhs; unfold lp_X7_passTides_24
      rw [lp_eq]
      simp only [e]
      cases lp_X7_passTides_64 Z (sC o sg' M) o x1 x2 x3 (nI 0) <;> rfl
    | succ d ih =>
      intro n sg' hn hz h9
      have W' := fleetA_W (pg := pg) (len := len) (lf := lf) W0 D0 n (fun i hi => (hl i (by omega)).2)
      rw [← hz] at W'
      have WW' : WW Z pg o len M F G np ng sg' := WW_c W W'.1 W'.2
      obtain ⟨v, sg1, sg2, h1, h2, h3, h4⟩ := s7_turn (f := lf n) L WW'.1 WW'.2.1 WW'.2.2 (hl n (by omega)).2
      have q : ¬ nI F ≤ nI n := fun q => by have := (nI_leI (by omega) (by omega)).mp q; omega
      have q2 : inb (nI n) 8 := (inbN (by omega)).mpr (by omega)
      have e9 : sg' 9 n = nI (lf n) := by rw [h9]; exact (hl n (by omega)).1
      have step : bb_X7_passTides_24 Z (sC o sg' M) o x1 x2 x3 (nI n) = some (.inl (sC o sg2 M, nI (n + 1))) := by
        unfold bb_X7_passTides_24
        rw [ck_t (cT0 L), sC_I0, WW'.2.1.2.2.1, if_neg q, dr_s (cR0_11 L), ck_t (cT9 L), cL9 L, ck_t q2, ck_t q2, nI_clamp (by omega), sC_I (by omega), e9, h1, bd_S, ck_t (cT0 L), h2, bd_S]
        all_goals ((try simp only [lw_S, nI_1]); (try rfl))
      have e : lp_X7_passTides_24 Z (sC o sg' M) o x1 x2 x3 (nI n) = lp_X7_passTides_24 Z (sC o sg2 M) o x1 x2 x3 (nI (n + 1)) := by
        unfold lp_X7_passTides_24
        exact lp_in step
      rw [e]
      refine ih (n + 1) sg2 (by omega) ?_ (by rw [h4, h9])
      rw [h3, hz]
      all_goals ((try simp only [lw_S, nI_1]); (try rfl))
  exact key F 0 sg (by omega) rfl rfl

