/-! ## Pure: what a fleet does: fish, boats, fishers -/
/-- fish and catch of the ground g since A -/
def FSg (A X : Nat → Nat → Int32) (g : Nat) : Prop := ∃ a0 a, RWn (A (19 + 2 * g)) a0 ∧ RWn (X (19 + 2 * g)) a ∧ (∀ s, 1 ≤ s → s ≤ 5 → a s ≤ a0 s) ∧ X (18 + 2 * g) 2 + nI (smF a) = A (18 + 2 * g) 2 + nI (smF a0)
theorem FSg_c {A X Y : Nat → Nat → Int32} {g : Nat} (h : FSg A X g) (h1 : ∀ s, Y (19 + 2 * g) s = X (19 + 2 * g) s) (h2 : Y (18 + 2 * g) 2 = X (18 + 2 * g) 2) : FSg A Y g := by
  obtain ⟨a0, a, r0, r, le, e⟩ := h
  exact ⟨a0, a, r0, fun s s1 s2 => by rw [h1]; exact r s s1 s2, le, by rw [h2]; exact e⟩
theorem kp_5 {hh a : Nat → Nat} {m : Nat} (h : ∀ s, hh s ≤ a s) : smF (fun s => if m ≤ s then a s - hh s else a s) + kpN hh m 5 = smF a := by
  have h1 := h 1
  have h2 := h 2
  have h3 := h 3
  have h4 := h 4
  have h5 := h 5
  show (if m ≤ 1 then a 1 - hh 1 else a 1) + (if m ≤ 2 then a 2 - hh 2 else a 2) + (if m ≤ 3 then a 3 - hh 3 else a 3) + (if m ≤ 4 then a 4 - hh 4 else a 4) + (if m ≤ 5 then a 5 - hh 5 else a 5) + (0 + (if m ≤ 1 then hh 1 else 0) + (if m ≤ 2 then hh 2 else 0) + (if m ≤ 3 then hh 3 else 0) + (if m ≤ 4 then hh 4 else 0) + (if m ≤ 5 then hh 5 else 0)) = a 1 + a 2 + a 3 + a 4 + a 5
  by_cases c1 : m ≤ 1
  · rw [if_pos c1, if_pos (show m ≤ 2 by omega), if_pos (show m ≤ 3 by omega), if_pos (show m ≤ 4 by omega), if_pos (show m ≤ 5 by omega), if_pos c1, if_pos (show m ≤ 2 by omega), if_pos (show m ≤ 3 by omega), if_pos (show m ≤ 4 by omega), if_pos (show m ≤ 5 by omega)]
    omega
  · by_cases c2 : m ≤ 2
    · rw [if_neg c1, if_pos c2, if_pos (show m ≤ 3 by omega), if_pos (show m ≤ 4 by omega), if_pos (show m ≤ 5 by omega), if_neg c1, if_pos c2, if_pos (show m ≤ 3 by omega), if_pos (show m ≤ 4 by omega), if_pos (show m ≤ 5 by omega)]
      omega
    · by_cases c3 : m ≤ 3
      · rw [if_neg c1, if_neg c2, if_pos c3, if_pos (show m ≤ 4 by omega), if_pos (show m ≤ 5 by omega), if_neg c1, if_neg c2, if_pos c3, if_pos (show m ≤ 4 by omega), if_pos (show m ≤ 5 by omega)]
        omega
      · by_cases c4 : m ≤ 4
        · rw [if_neg c1, if_neg c2, if_neg c3, if_pos c4, if_pos (show m ≤ 5 by omega), if_neg c1, if_neg c2, if_neg c3, if_pos c4, if_pos (show m ≤ 5 by omega)]
          omega
        · by_cases c5 : m ≤ 5
          · rw [if_neg c1, if_neg c2, if_neg c3, if_neg c4, if_pos c5, if_neg c1, if_neg c2, if_neg c3, if_neg c4, if_pos c5]
            omega
          · rw [if_neg c1, if_neg c2, if_neg c3, if_neg c4, if_neg c5, if_neg c1, if_neg c2, if_neg c3, if_neg c4, if_neg c5]
            omega
theorem FSg_sail {A X : Nat → Nat → Int32} {f g F G : Nat} (hF : F ≤ 8) (hG : G ≤ 8) (hf : f < F) (hg : g < G) (h : FSg A X g) : FSg A (sailA X f g) g := by
  obtain ⟨a0, a, r0, r, le, e⟩ := h
  obtain ⟨hh, hhe⟩ : ∃ hh, hh = (hlA X g f).1 := ⟨_, rfl⟩
  obtain ⟨m, hm⟩ : ∃ m, m = (tornA X f g (34 + 2 * f) 1).toNatClampNeg := ⟨_, rfl⟩
  have hb : ∀ s, hh s ≤ (X (19 + 2 * g) s).toNatClampNeg := fun s => by
    rw [hhe]
    exact ((hlN_b (fk := fun s => (X (19 + 2 * g) s).toNatClampNeg) (h := (X (34 + 2 * f) 3).toNatClampNeg) (w := (X (34 + 2 * f) 2).toNatClampNeg) (m := (X (34 + 2 * f) 1).toNatClampNeg) 5).2.2.2.2.2 s).1
  have ha : ∀ s, 1 ≤ s → s ≤ 5 → (X (19 + 2 * g) s).toNatClampNeg = a s := fun s s1 s2 => by
    obtain ⟨e1, e2⟩ := r s s1 s2
    rw [e1, nI_clamp (by omega)]
  have v1 : sailA X f g (18 + 2 * g) 2 = X (18 + 2 * g) 2 + nI (kpN hh m 5) := by
    rw [hhe, hm]
    unfold sailA ldA
    rw [up2_ne (by omega), up2_eq, tornA_o (by omega) (by omega)]
  have k5 := kp_5 (hh := hh) (a := fun s => (X (19 + 2 * g) s).toNatClampNeg) (m := m) hb
  have sa : smF (fun s => (X (19 + 2 * g) s).toNatClampNeg) = smF a := by
    show (X (19 + 2 * g) 1).toNatClampNeg + (X (19 + 2 * g) 2).toNatClampNeg + (X (19 + 2 * g) 3).toNatClampNeg + (X (19 + 2 * g) 4).toNatClampNeg + (X (19 + 2 * g) 5).toNatClampNeg = a 1 + a 2 + a 3 + a 4 + a 5
    rw [ha 1 (by decide) (by decide), ha 2 (by decide) (by decide), ha 3 (by decide) (by decide), ha 4 (by decide) (by decide), ha 5 (by decide) (by decide)]
  rw [sa] at k5
  refine ⟨a0, fun s => if m ≤ s then (X (19 + 2 * g) s).toNatClampNeg - hh s else (X (19 + 2 * g) s).toNatClampNeg, r0, fun s s1 s2 => ?_, fun s s1 s2 => ?_, ?_⟩
  · obtain ⟨e1, e2⟩ := r s s1 s2
    have b1 := hb s
    have b2 := ha s s1 s2
    rw [sailA_fish (by omega) (by omega), ← hhe, ← hm]
    unfold fsN
    show _ = nI (if m ≤ s then _ else _) ∧ (if m ≤ s then _ else _) ≤ 99
    by_cases c : m ≤ s
    · rw [if_pos ⟨c, s1, s2⟩, if_pos c, b2, e1]
      rw [b2] at b1
      exact ⟨nI_sub b1, by omega⟩
    · rw [if_neg (fun z => c z.1), if_neg c, b2]
      exact ⟨e1, e2⟩
  · have b2 := ha s s1 s2
    have b3 := le s s1 s2
    show (if m ≤ s then _ else _) ≤ _
    by_cases c : m ≤ s
    · rw [if_pos c]; omega
    · rw [if_neg c]; omega
  · rw [v1, ← e, Int32.add_assoc, nI_add]
    congr 2
    omega
theorem FSg_fleet {pg : Nat → Nat} {len np ng F G : Nat} {lf : Nat → Nat} {A : Nat → Nat → Int32} (W : WS A F G np ng) (D : WD A F G) : ∀ n, (∀ i, i < n → lf i < F) → ∀ g, g < G → FSg A (fleetA pg len np ng lf A n) g
  | 0, _, g, hg => by
    obtain ⟨a, ha⟩ := RWn_ex (D.1 g hg)
    exact ⟨a, a, ha, ha, fun _ _ _ => Nat.le_refl _, rfl⟩
  | n + 1, h, g, hg => by
    have ih := FSg_fleet (pg := pg) (len := len) W D n (fun i hi => h i (by omega)) g hg
    obtain ⟨w1, w2⟩ := fleetA_W (pg := pg) (len := len) (lf := lf) W D n fun i hi => h i (by omega)
    have hF : F ≤ 8 := W.2.2.2.1
    have hG : G ≤ 8 := W.2.1
    have hl := h n (by omega)
    have W' := WS_c w1 W
    show FSg A (goA pg len np ng (fleetA pg len np ng lf A n) (lf n)) g
    unfold goA
    rcases fgo_v (pg := pg) (len := len) (f := lf n) W' ng 0 (by omega) with c | ⟨g0, hg0, c⟩
    · rw [if_pos c]
      exact FSg_c ih (fun s => homeA_o (by omega)) (homeA_o (by omega))
    · rw [c, if_neg (nI_nm1 (by omega)), nI_clamp (by omega)]
      by_cases e : g = g0
      · subst e
        exact FSg_sail hF hG hl hg ih
      · exact FSg_c ih (fun s => sailA_o (by omega) (by omega) (by omega) (by omega)) (sailA_o (by omega) (by omega) (by omega) (by omega))
/-- what a net holds, in number -/
def snN (hh : Nat → Nat) : Nat → Nat
  | 0 => 0
  | j + 1 => snN hh j + hh (5 - j)
theorem snN_c {hh h2 : Nat → Nat} : ∀ j, (∀ s, 5 - j < s → hh s = h2 s) → j ≤ 5 → snN hh j = snN h2 j
  | 0, _, _ => rfl
  | j + 1, h, hj => by rw [snN, snN, snN_c j (fun s hs => h s (by omega)) (by omega), h (5 - j) (by omega)]
theorem hlN_n {fk : Nat → Nat} {h w m : Nat} : ∀ j, j ≤ 5 → snN (hlN fk h w m j).1 j = (hlN fk h w m j).2.1
  | 0, _ => rfl
  | j + 1, hj => by
    have ih := hlN_n (fk := fk) (h := h) (w := w) (m := m) j (by omega)
    have z := (hlN_b (fk := fk) (h := h) (w := w) (m := m) j).2.2.2.1 (5 - j) (by omega) (Nat.le_refl _)
    rw [snN, hlN]
    by_cases c : m ≤ 5 - j ∧ (hlN fk h w m j).2.2.2 = 0
    · rw [if_pos c]
      unfold hl1
      show snN (up1 _ (5 - j) _) j + up1 _ (5 - j) _ (5 - j) = _
      rw [up1_e, snN_c (h2 := (hlN fk h w m j).1) j (fun s hs => up1_o (by omega)) (by omega), ih]
    · rw [if_neg c, ih, z]; omega
theorem kpN_le {hh : Nat → Nat} {m : Nat} : kpN hh m 5 ≤ snN hh 5 := by
  show 0 + (if m ≤ 1 then hh 1 else 0) + (if m ≤ 2 then hh 2 else 0) + (if m ≤ 3 then hh 3 else 0) + (if m ≤ 4 then hh 4 else 0) + (if m ≤ 5 then hh 5 else 0) ≤ 0 + hh 5 + hh 4 + hh 3 + hh 2 + hh 1
  split <;> split <;> split <;> split <;> split <;> omega
theorem hlN_t {fk : Nat → Nat} {h w m : Nat} : ∀ j, (hlN fk h w m j).2.2.2 ≠ 0 → m ≤ 5
  | 0, e => absurd rfl e
  | j + 1, e => by
    rw [hlN] at e
    by_cases c : m ≤ 5 - j ∧ (hlN fk h w m j).2.2.2 = 0
    · omega
    · rw [if_neg c] at e
      exact hlN_t j e
/-- what a fisher has done since A -/
def FQ (A X : Nat → Nat → Int32) (G f : Nat) : Prop :=
  (X (34 + 2 * f) 6 = -1 ∧ X (34 + 2 * f) 8 = A (34 + 2 * f) 8 ∧ X (34 + 2 * f) 7 = A (34 + 2 * f) 7 ∧ X (34 + 2 * f) 1 = A (34 + 2 * f) 1) ∨
  ∃ g num te h, g < G ∧ X (34 + 2 * f) 6 = nI g ∧ te ≤ 1 ∧ A (34 + 2 * f) 3 = nI h ∧ h ≤ 40 ∧ num ≤ h ∧ X (34 + 2 * f) 8 = A (34 + 2 * f) 8 + nI num ∧ X (34 + 2 * f) 7 = A (34 + 2 * f) 7 + nI te ∧ X (34 + 2 * f) 1 = A (34 + 2 * f) 1 + nI te
theorem FQ_c {A X Y : Nat → Nat → Int32} {G f : Nat} (h : FQ A X G f) (e : ∀ k, k = 1 ∨ k = 6 ∨ k = 7 ∨ k = 8 → Y (34 + 2 * f) k = X (34 + 2 * f) k) : FQ A Y G f := by
  unfold FQ
  rw [e 1 (by omega), e 6 (by omega), e 7 (by omega), e 8 (by omega)]
  exact h
theorem FQ_sail {A X : Nat → Nat → Int32} {f g F G : Nat} (hF : F ≤ 8) (hG : G ≤ 8) (hf : f < F) (hg : g < G) (D : WD X F G) (e : ∀ k, X (34 + 2 * f) k = A (34 + 2 * f) k) : FQ A (sailA X f g) G f := by
  obtain ⟨⟨m, m1, m2, m3⟩, ⟨w, w1, w2⟩, ⟨h, h1, h2⟩⟩ := D.2 f hf
  obtain ⟨k1, k2, k3, k4, k5, k6⟩ := sailA_k (A := X) (show f < 8 by omega) (show g < 8 by omega)
  have hmesh := sailA_mesh (A := X) (show f < 8 by omega) (show g < 8 by omega)
  have v8 : sailA X f g (34 + 2 * f) 8 = X (34 + 2 * f) 8 + nI (kpN (hlA X g f).1 (tornA X f g (34 + 2 * f) 1).toNatClampNeg 5) := by
    unfold sailA ldA
    rw [up2_ne (by omega), up2_ne (by omega), up2_eq, tornA_o (by omega) (by omega)]
  have nb : kpN (hlA X g f).1 (tornA X f g (34 + 2 * f) 1).toNatClampNeg 5 ≤ h := by
    refine Nat.le_trans kpN_le ?_
    unfold hlA
    rw [hlN_n 5 (Nat.le_refl _)]
    refine Nat.le_trans (hlN_b 5).1 ?_
    rw [h2, nI_clamp (by omega)]
    exact Nat.le_refl _
  rw [e] at v8 k4
  rw [e] at hmesh
  refine .inr ⟨g, _, if (hlA X g f).2.2.2 = 0 then 0 else 1, h, hg, k3, ?_, by rw [← e]; exact h2, h1, nb, v8, ?_, ?_⟩
  · split <;> omega
  · rw [k4]
    by_cases c : (hlA X g f).2.2.2 = 0
    · rw [if_pos c, if_pos c]
      exact (Int32.add_zero _).symm
    · rw [if_neg c, if_neg c]
  · rw [hmesh]
    by_cases c : (hlA X g f).2.2.2 = 0
    · rw [if_pos c, if_pos c]
      exact (Int32.add_zero _).symm
    · rw [if_neg c, if_neg c]
      have m5 : (X (34 + 2 * f) 1).toNatClampNeg ≤ 5 := hlN_t (fk := fun s => (X (19 + 2 * g) s).toNatClampNeg) (h := (X (34 + 2 * f) 3).toNatClampNeg) (w := (X (34 + 2 * f) 2).toNatClampNeg) 5 c
      rw [m3, nI_clamp (by omega)] at m5
      rw [← e, m3, imin6 m2, nI_add, Nat.min_eq_left (by omega)]
theorem fl_row {pg : Nat → Nat} {len np ng F G : Nat} {lf : Nat → Nat} {A : Nat → Nat → Int32} (W : WS A F G np ng) (D : WD A F G) : ∀ n, (∀ i, i < n → lf i < F) → ∀ f, f < F → (∀ i, i < n → lf i ≠ f) → ∀ k, fleetA pg len np ng lf A n (34 + 2 * f) k = A (34 + 2 * f) k
  | 0, _, _, _, _, _ => rfl
  | n + 1, h, f, hf, hn, k => by
    have ih := fl_row (pg := pg) (len := len) W D n (fun i hi => h i (by omega)) f hf (fun i hi => hn i (by omega)) k
    obtain ⟨w1, w2⟩ := fleetA_W (pg := pg) (len := len) (lf := lf) W D n fun i hi => h i (by omega)
    have hF : F ≤ 8 := W.2.2.2.1
    have hG : G ≤ 8 := W.2.1
    have hl := h n (by omega)
    have hne := hn n (by omega)
    have W' := WS_c w1 W
    show goA pg len np ng (fleetA pg len np ng lf A n) (lf n) (34 + 2 * f) k = _
    unfold goA
    rcases fgo_v (pg := pg) (len := len) (f := lf n) W' ng 0 (by omega) with c | ⟨g0, hg0, c⟩
    · rw [if_pos c, homeA_o (.inl (by omega))]; exact ih
    · rw [c, if_neg (nI_nm1 (by omega)), nI_clamp (by omega), sailA_o (.inl (by omega)) (.inl (by omega)) (by omega) (.inl (by omega))]; exact ih
theorem fl_fq {pg : Nat → Nat} {len np ng F G : Nat} {lf : Nat → Nat} {A : Nat → Nat → Int32} (W : WS A F G np ng) (D : WD A F G) : ∀ n, (∀ i, i < n → lf i < F) → (∀ i j, i < j → j < n → lf i ≠ lf j) → ∀ i, i < n → FQ A (fleetA pg len np ng lf A n) G (lf i)
  | 0, _, _, i, hi => absurd hi (Nat.not_lt_zero _)
  | n + 1, h, inj, i, hi => by
    obtain ⟨w1, w2⟩ := fleetA_W (pg := pg) (len := len) (lf := lf) W D n fun i hi => h i (by omega)
    have hF : F ≤ 8 := W.2.2.2.1
    have hG : G ≤ 8 := W.2.1
    have hl := h n (by omega)
    have hli := h i hi
    have W' := WS_c w1 W
    have row := fl_row (pg := pg) (len := len) W D n (fun i hi => h i (by omega)) (lf n) hl (fun i hi => inj i n hi (by omega))
    have ih : i < n → FQ A (fleetA pg len np ng lf A n) G (lf i) := fun z => fl_fq W D n (fun i hi => h i (by omega)) (fun i j hi hj => inj i j hi (by omega)) i z
    have ne : i < n → lf i ≠ lf n := fun z => inj i n z (by omega)
    show FQ A (goA pg len np ng (fleetA pg len np ng lf A n) (lf n)) G (lf i)
    unfold goA
    rcases fgo_v (pg := pg) (len := len) (f := lf n) W' ng 0 (by omega) with c | ⟨g0, hg0, c⟩
    · rw [if_pos c]
      by_cases z : i < n
      · have := ne z
        exact FQ_c (ih z) (fun k hk => homeA_o (.inl (by omega)))
      · have : i = n := by omega
        subst this
        refine .inl ⟨?_, ?_, ?_, ?_⟩
        · unfold homeA
          rw [up2_ne (.inr (by decide)), up2_eq]
        · rw [homeA_o (.inr (by decide))]; exact row 8
        · rw [homeA_o (.inr (by decide))]; exact row 7
        · rw [homeA_o (.inr (by decide))]; exact row 1
    · rw [c, if_neg (nI_nm1 (by omega)), nI_clamp (by omega)]
      by_cases z : i < n
      · have := ne z
        exact FQ_c (ih z) (fun k hk => sailA_o (.inl (by omega)) (.inl (by omega)) (by omega) (.inl (by omega)))
      · have : i = n := by omega
        subst this
        exact FQ_sail hF hG hl hg0 w2 row
/-- the go that is taken lets its fisher sail -/
theorem fgo_ok {pg : Nat → Nat} {len np f : Nat} {X : Nat → Nat → Int32} : ∀ d i v, fgo pg len np X f d i = v → v ≠ -1 → ∃ j, i ≤ j ∧ j < i + d ∧ goOK pg len np X f j ∧ X (50 + j) 1 = v
  | 0, i, v, e, h => absurd e.symm h
  | d + 1, i, v, e, h => by
    rw [fgo] at e
    by_cases c : goOK pg len np X f i
    · rw [cif_t c] at e
      exact ⟨i, Nat.le_refl _, by omega, c, e⟩
    · rw [cif_f c] at e
      obtain ⟨j, j1, j2, j3, j4⟩ := fgo_ok d (i + 1) v e h
      exact ⟨j, by omega, by omega, j3, j4⟩
/-- the boats at a ground -/
def BT (A X : Nat → Nat → Int32) (lf : Nat → Nat) (n g : Nat) : Prop := ∃ b r, X (18 + 2 * g) 1 = nI b ∧ A (18 + 2 * g) 0 = nI r ∧ r < 2 ^ 30 ∧ b ≤ r ∧ b = smN (fun i => if X (34 + 2 * lf i) 6 = nI g then 1 else 0) n
theorem fl_bt {pg : Nat → Nat} {len np ng F G : Nat} {lf : Nat → Nat} {A : Nat → Nat → Int32} (W : WS A F G np ng) (D : WD A F G) (rm : ∀ g, g < G → ∃ r, r < 2 ^ 30 ∧ A (18 + 2 * g) 0 = nI r) (b0 : ∀ g, g < G → A (18 + 2 * g) 1 = 0) : ∀ n, (∀ i, i < n → lf i < F) → (∀ i j, i < j → j < n → lf i ≠ lf j) → ∀ g, g < G → BT A (fleetA pg len np ng lf A n) lf n g
  | 0, _, _, g, hg => by
    obtain ⟨r, r1, r2⟩ := rm g hg
    exact ⟨0, r, b0 g hg, r2, r1, Nat.zero_le _, rfl⟩
  | n + 1, h, inj, g, hg => by
    obtain ⟨w1, w2⟩ := fleetA_W (pg := pg) (len := len) (lf := lf) W D n fun i hi => h i (by omega)
    have hF : F ≤ 8 := W.2.2.2.1
    have hG : G ≤ 8 := W.2.1
    have hl := h n (by omega)
    have W' := WS_c w1 W
    obtain ⟨b, r, e1, e2, e3, e4, e5⟩ := fl_bt (pg := pg) (len := len) W D rm b0 n (fun i hi => h i (by omega)) (fun i j hi hj => inj i j hi (by omega)) g hg
    have ne : ∀ i, i < n → lf i ≠ lf n := fun i z => inj i n z (by omega)
    show BT A (goA pg len np ng (fleetA pg len np ng lf A n) (lf n)) lf (n + 1) g
    unfold goA
    rcases fgo_v (pg := pg) (len := len) (f := lf n) W' ng 0 (by omega) with c | ⟨g0, hg0, c⟩
    · rw [if_pos c]
      refine ⟨b, r, by rw [homeA_o (.inl (by omega))]; exact e1, e2, e3, e4, ?_⟩
      have v6 : homeA (fleetA pg len np ng lf A n) (lf n) (34 + 2 * lf n) 6 = -1 := by
        unfold homeA
        rw [up2_ne (.inr (by decide)), up2_eq]
      rw [smN, v6, if_neg (fun z => nI_nm1 (g := g) (by omega) z.symm), e5]
      exact smN_c n fun i hi => by rw [homeA_o (.inl (by have := ne i hi; omega))]
    · have hgo : fgo pg len np (fleetA pg len np ng lf A n) (lf n) ng 0 = nI g0 := c
      rw [c, if_neg (nI_nm1 (by omega)), nI_clamp (by omega)]
      obtain ⟨k1, -, k3, -⟩ := sailA_k (A := fleetA pg len np ng lf A n) (show lf n < 8 by omega) (show g0 < 8 by omega)
      have sm : smN (fun i => if sailA (fleetA pg len np ng lf A n) (lf n) g0 (34 + 2 * lf i) 6 = nI g then 1 else 0) n = smN (fun i => if fleetA pg len np ng lf A n (34 + 2 * lf i) 6 = nI g then 1 else 0) n := smN_c n fun i hi => by
        have := ne i hi
        have := h i (by omega)
        rw [sailA_o (.inl (by omega)) (.inl (by omega)) (by omega) (.inl (by omega))]
      by_cases e : g = g0
      · subst e
        obtain ⟨j, -, -, jo, jv⟩ := fgo_ok ng 0 _ hgo (nI_nm1 (by omega))
        obtain ⟨-, jb, -⟩ := jo
        rw [jv, nI_clamp (by omega), e1, w1 (18 + 2 * g) 0 (by unfold told; omega), e2, nI_ltI (by omega) (by omega)] at jb
        refine ⟨b + 1, r, by rw [k1, e1, nI_add], e2, e3, by omega, ?_⟩
        rw [smN, sm, k3, if_pos rfl, e5]
      · refine ⟨b, r, ?_, e2, e3, e4, ?_⟩
        · rw [sailA_o (.inl (by omega)) (.inl (by omega)) (by omega) (.inl (by omega))]; exact e1
        · rw [smN, sm, k3, if_neg (fun z => e ((nI_eq (by omega) (by omega)).mp z).symm), e5, Nat.add_zero]
theorem boat0_z {A : Nat → Nat → Int32} {g : Nat} : ∀ n, g < n → boat0 A n (18 + 2 * g) 1 = 0
  | 0, h => absurd h (Nat.not_lt_zero _)
  | n + 1, h => by
    rw [boat0]
    by_cases e : g = n
    · subst e; exact up2_eq _ _ _ _
    · rw [up2_ne (.inl (by omega))]; exact boat0_z n (by omega)
