/-! ## Pure: the shore by hand, new -/
def SM5 (M M' : gMem) (c : Nat) : Prop := mT M' c = mT M c ∧ mL M' c = mL M c ∧ mI M' c = mI M c ∧ mR M' c = mR M c ∧ mJ M' c = mJ M c
theorem SM5_r (M : gMem) (c : Nat) : SM5 M M c := ⟨rfl, rfl, rfl, rfl, rfl⟩
theorem SM5_t {M X Y : gMem} {c : Nat} (h : SM5 M X c) (k : SM5 X Y c) : SM5 M Y c := ⟨k.1.trans h.1, k.2.1.trans h.2.1, k.2.2.1.trans h.2.2.1, k.2.2.2.1.trans h.2.2.2.1, k.2.2.2.2.trans h.2.2.2.2⟩
theorem SM5_n {M : gMem} {t n c : Nat} (h : c ≠ mN M) : SM5 M (nW M t n) c := ⟨up1_o h, up1_o h, up1_o h, up1_o h, up1_o h⟩
theorem SM5_R {M : gMem} {a j c : Nat} {v : Option Nat} (h : c ≠ a) : SM5 M (wR M a j v) c := ⟨rfl, rfl, rfl, funext fun i => up2_ne (.inl h), rfl⟩
theorem SM5_I {M : gMem} {a j c : Nat} {v : Int32} (h : c ≠ a) : SM5 M (wI M a j v) c := ⟨rfl, rfl, funext fun i => up2_ne (.inl h), rfl, rfl⟩
theorem SM5_J {M : gMem} {a j c : Nat} {v : Int64} (h : c ≠ a) : SM5 M (wJ M a j v) c := ⟨rfl, rfl, rfl, rfl, funext fun i => up2_ne (.inl h)⟩
/-- rows of a row -/
theorem mnS_f {k a : Nat} : ∀ (i : Nat) (X : gMem), mN X = a + 1 → mN (mnS k a i X) = a + 1 + i ∧ (∀ c, c < a → SM5 X (mnS k a i X) c) ∧ mT (mnS k a i X) a = mT X a ∧ mL (mnS k a i X) a = mL X a ∧ mI (mnS k a i X) a = mI X a ∧ ∀ j, j < i → mR (mnS k a i X) a j = some (a + 1 + j) ∧ mT (mnS k a i X) (a + 1 + j) = 20 ∧ mL (mnS k a i X) (a + 1 + j) = k ∧ mI (mnS k a i X) (a + 1 + j) = fun _ => 0
  | 0, X, h => ⟨h, fun c _ => SM5_r X c, rfl, rfl, rfl, fun j hj => absurd hj (Nat.not_lt_zero _)⟩
  | i + 1, X, h => by
    obtain ⟨h1, h2, h3, h4, h5, h6⟩ := mnS_f (k := k) i X h
    show mN (wR (nW (mnS k a i X) 20 k) a i (some (a + 1 + i))) = _ ∧ (∀ c, c < a → SM5 X (wR (nW (mnS k a i X) 20 k) a i (some (a + 1 + i))) c) ∧ mT (wR (nW (mnS k a i X) 20 k) a i (some (a + 1 + i))) a = _ ∧ mL (wR (nW (mnS k a i X) 20 k) a i (some (a + 1 + i))) a = _ ∧ mI (wR (nW (mnS k a i X) 20 k) a i (some (a + 1 + i))) a = _ ∧ ∀ j, j < i + 1 → mR (wR (nW (mnS k a i X) 20 k) a i (some (a + 1 + i))) a j = _ ∧ mT (wR (nW (mnS k a i X) 20 k) a i (some (a + 1 + i))) (a + 1 + j) = _ ∧ mL (wR (nW (mnS k a i X) 20 k) a i (some (a + 1 + i))) (a + 1 + j) = _ ∧ mI (wR (nW (mnS k a i X) 20 k) a i (some (a + 1 + i))) (a + 1 + j) = _
    generalize mnS k a i X = Y at h1 h2 h3 h4 h5 h6
    have hne : a ≠ mN Y := by omega
    have ka := SM5_n (t := 20) (n := k) hne
    refine ⟨by show mN Y + 1 = _; omega, fun c hc => SM5_t (h2 c hc) (SM5_t (SM5_n (t := 20) (n := k) (by omega)) (SM5_R (by omega))), ka.1.trans h3, ka.2.1.trans h4, ka.2.2.1.trans h5, fun j hj => ?_⟩
    by_cases e : j = i
    · subst e
      refine ⟨up2_eq _ _ _ _, ?_, ?_, ?_⟩
      · show up1 (mT Y) (mN Y) 20 (a + 1 + j) = 20
        rw [h1, up1_e]
      · show up1 (mL Y) (mN Y) k (a + 1 + j) = k
        rw [h1, up1_e]
      · show up1 (mI Y) (mN Y) (fun _ => 0) (a + 1 + j) = _
        rw [h1, up1_e]
    · obtain ⟨r1, r2, r3, r4⟩ := h6 j (by omega)
      have kj := SM5_t (SM5_n (M := Y) (t := 20) (n := k) (c := a + 1 + j) (by omega)) (SM5_R (a := a) (j := i) (v := some (a + 1 + i)) (by omega))
      refine ⟨?_, kj.1.trans r2, kj.2.1.trans r3, kj.2.2.1.trans r4⟩
      show up2 (up1 (mR Y) (mN Y) (fun _ => none)) a i _ a j = _
      rw [up2_ne (.inr e), up1_o hne]; exact r1
theorem mnM_f {M : gMem} {n k a : Nat} (ha : mN M = a) : mN (mnM M n k) = a + 1 + n ∧ (∀ c, c < a → SM5 M (mnM M n k) c) ∧ mT (mnM M n k) a = 28 ∧ mL (mnM M n k) a = n ∧ ∀ j, j < n → mR (mnM M n k) a j = some (a + 1 + j) ∧ mT (mnM M n k) (a + 1 + j) = 20 ∧ mL (mnM M n k) (a + 1 + j) = k ∧ mI (mnM M n k) (a + 1 + j) = fun _ => 0 := by
  subst ha
  obtain ⟨h1, h2, h3, h4, h5, h6⟩ := mnS_f (k := k) (a := mN M) n (nW M 28 n) rfl
  exact ⟨h1, fun c hc => SM5_t (SM5_n (by omega)) (h2 c hc), h3.trans (up1_e _ _ _), h4.trans (up1_e _ _ _), h6⟩
def SIM (x : Nat) (M : gMem) : Prop := mT M x = 11 ∧ x + 52 ≤ mN M ∧ (mR M x 2 = some (x + 1) ∧ mR M x 3 = some (x + 10) ∧ mR M x 4 = some (x + 19) ∧ mR M x 6 = some (x + 44) ∧ mR M x 7 = some (x + 51)) ∧
  (mT M (x + 1) = 28 ∧ mL M (x + 1) = 8 ∧ ∀ i, i < 8 → mR M (x + 1) i = some (x + 2 + i) ∧ mT M (x + 2 + i) = 20 ∧ mL M (x + 2 + i) = 6) ∧ (mT M (x + 10) = 28 ∧ mL M (x + 10) = 8) ∧ (mT M (x + 19) = 28 ∧ mL M (x + 19) = 24) ∧ (mT M (x + 44) = 28 ∧ mL M (x + 44) = 6) ∧ mT M (x + 51) = 28 ∧ mL M (x + 51) = 6
/-- what leaves the shore by hand as it is -/
def FXs (x : Nat) (M M' : gMem) : Prop := (∀ c, c < x + 52 → c ≠ x → SM5 M M' c) ∧ mT M' x = mT M x ∧ mI M' x = mI M x ∧ (∀ j, j < 8 → mR M' x j = mR M x j) ∧ mN M ≤ mN M'
theorem FXs_t {x : Nat} {M X Y : gMem} (h : FXs x M X) (k : FXs x X Y) : FXs x M Y := ⟨fun c h1 h2 => SM5_t (h.1 c h1 h2) (k.1 c h1 h2), k.2.1.trans h.2.1, k.2.2.1.trans h.2.2.1, fun j hj => (k.2.2.2.1 j hj).trans (h.2.2.2.1 j hj), Nat.le_trans h.2.2.2.2 k.2.2.2.2⟩
theorem FXs_n {x t n : Nat} {M : gMem} (h : x + 52 ≤ mN M) : FXs x M (nW M t n) := by
  have k := SM5_n (M := M) (t := t) (n := n) (c := x) (by omega)
  exact ⟨fun c h1 _ => SM5_n (by omega), k.1, k.2.2.1, fun j _ => by rw [k.2.2.2.1], Nat.le_succ _⟩
theorem FXs_m {x n k : Nat} {M : gMem} (h : x + 52 ≤ mN M) : FXs x M (mnM M n k) := by
  obtain ⟨h1, h2, -⟩ := mnM_f (M := M) (n := n) (k := k) rfl
  have kx := h2 x (by omega)
  exact ⟨fun c h3 _ => h2 c (by omega), kx.1, kx.2.2.1, fun j _ => by rw [kx.2.2.2.1], by omega⟩
theorem FXs_R {x j : Nat} {v : Option Nat} {M : gMem} (h : 8 ≤ j) : FXs x M (wR M x j v) := ⟨fun c _ h2 => SM5_R h2, rfl, rfl, fun i hi => up2_ne (.inr (by omega)), Nat.le_refl _⟩
theorem FXs_I {x c j : Nat} {v : Int32} {M : gMem} (h : x + 52 ≤ c) : FXs x M (wI M c j v) := ⟨fun d h1 h2 => SM5_I (by omega), rfl, (SM5_I (M := M) (a := c) (j := j) (v := v) (c := x) (by omega)).2.2.1, fun i _ => rfl, Nat.le_refl _⟩
theorem FXs_J {x j : Nat} {v : Int64} {M : gMem} : FXs x M (wJ M x j v) := ⟨fun c _ h2 => SM5_J h2, rfl, rfl, fun i _ => rfl, Nat.le_refl _⟩
theorem SIM_x {x : Nat} {M M' : gMem} (S : SIM x M) (h : FXs x M M') : SIM x M' := by
  obtain ⟨s1, s2, ⟨r2, r3, r4, r6, r7⟩, ⟨a1, a2, a3⟩, ⟨b1, b2⟩, ⟨c1, c2⟩, ⟨d1, d2⟩, e1, e2⟩ := S
  obtain ⟨h1, h2, h3, h4, h5⟩ := h
  have T : ∀ d, d < 52 → d ≠ 0 → mT M' (x + d) = mT M (x + d) ∧ mL M' (x + d) = mL M (x + d) ∧ mR M' (x + d) = mR M (x + d) := fun d hd hd0 => by
    obtain ⟨z1, z2, z3, z4, z5⟩ := h1 (x + d) (by omega) (by omega)
    exact ⟨z1, z2, z4⟩
  refine ⟨h2.trans s1, by omega, ⟨(h4 2 (by decide)).trans r2, (h4 3 (by decide)).trans r3, (h4 4 (by decide)).trans r4, (h4 6 (by decide)).trans r6, (h4 7 (by decide)).trans r7⟩, ⟨(T 1 (by decide) (by decide)).1.trans a1, (T 1 (by decide) (by decide)).2.1.trans a2, fun i hi => ?_⟩, ⟨(T 10 (by decide) (by decide)).1.trans b1, (T 10 (by decide) (by decide)).2.1.trans b2⟩, ⟨(T 19 (by decide) (by decide)).1.trans c1, (T 19 (by decide) (by decide)).2.1.trans c2⟩, ⟨(T 44 (by decide) (by decide)).1.trans d1, (T 44 (by decide) (by decide)).2.1.trans d2⟩, (T 51 (by decide) (by decide)).1.trans e1, (T 51 (by decide) (by decide)).2.1.trans e2⟩
  obtain ⟨q1, q2, q3⟩ := a3 i hi
  obtain ⟨z1, z2, z3⟩ := T (2 + i) (by omega) (by omega)
  rw [← Nat.add_assoc] at z1 z2
  exact ⟨by rw [(T 1 (by decide) (by decide)).2.2]; exact q1, z1.trans q2, z2.trans q3⟩
section SI
variable {α β : Type} {P : Option β → Prop}
theorem yq_n {x t n : Nat} {M : gMem} {K : gMem → Option β} (S : SIM x M) (h : ∀ M', SIM x M' → FXs x M M' → mN M' = mN M + 1 → mT M' (mN M) = t → mL M' (mN M) = n → P (K M')) : P (lw (nW M t n) K) := h _ (SIM_x S (FXs_n S.2.1)) (FXs_n S.2.1) rfl (up1_e _ _ _) (up1_e _ _ _)
theorem yq_m {x n k : Nat} {M : gMem} {K : gMem → Option β} (S : SIM x M) (h : ∀ M', SIM x M' → FXs x M M' → mN M' = mN M + 1 + n → P (K M')) : P (lw (mnM M n k) K) := h _ (SIM_x S (FXs_m S.2.1)) (FXs_m S.2.1) (mnM_f rfl).1
theorem yq_R {x j : Nat} {v : Option Nat} {M : gMem} {K : gMem → Option β} (S : SIM x M) (hj : 8 ≤ j) (h : ∀ M', SIM x M' → FXs x M M' → mN M' = mN M → P (K M')) : P (lw (wR M x j v) K) := h _ (SIM_x S (FXs_R hj)) (FXs_R hj) rfl
theorem yq_I {x c j : Nat} {v : Int32} {M : gMem} {K : gMem → Option β} (S : SIM x M) (hc : x + 52 ≤ c) (h : ∀ M', SIM x M' → FXs x M M' → mN M' = mN M → mT M' c = mT M c → mL M' c = mL M c → P (K M')) : P (lw (wI M c j v) K) := h _ (SIM_x S (FXs_I hc)) (FXs_I hc) rfl rfl rfl
theorem yq_J {x j : Nat} {v : Int64} {M : gMem} {K : gMem → Option β} (S : SIM x M) (h : ∀ M', SIM x M' → FXs x M M' → mN M' = mN M → P (K M')) : P (lw (wJ M x j v) K) := h _ (SIM_x S FXs_J) FXs_J rfl
end SI
def PX12 (M : gMem) (x : Nat) (o : Option (Unit × gMem)) : Prop := ∃ M', o = some ((), M') ∧ SIM x M' ∧ mN M' = x + 75 ∧ (∀ c, c < x → SM5 M M' c) ∧ mI M' x = mI M x
set_option maxRecDepth 20000 in
theorem X12_f {M : gMem} {x : Nat} (ht : mT M x = 11) (hx : mN M = x + 1) : ∃ M', f_X12_init M x = some ((), M') ∧ SIM x M' ∧ mN M' = x + 75 ∧ (∀ c, c < x → SM5 M M' c) ∧ mI M' x = mI M x := by
  -- the first five rows
  obtain ⟨a1, a2, a3, a4, a5⟩ := mnM_f (M := M) (n := 8) (k := 6) hx
  obtain ⟨M1, h1⟩ : ∃ X, X = mnM M 8 6 := ⟨_, rfl⟩
  rw [← h1] at a1 a2 a3 a4 a5
  obtain ⟨M3, h3⟩ : ∃ X, X = wR M1 x 2 (some (x + 1)) := ⟨_, rfl⟩
  have n3 : mN M3 = x + 10 := by rw [h3]; show mN M1 = _; omega
  obtain ⟨b1, b2, b3, b4, b5⟩ := mnM_f (M := M3) (n := 8) (k := 4) n3
  obtain ⟨M5, h5⟩ : ∃ X, X = mnM M3 8 4 := ⟨_, rfl⟩
  rw [← h5] at b1 b2 b3 b4 b5
  obtain ⟨M7, h7⟩ : ∃ X, X = wR M5 x 3 (some (x + 10)) := ⟨_, rfl⟩
  have n7 : mN M7 = x + 19 := by rw [h7]; show mN M5 = _; omega
  obtain ⟨c1, c2, c3, c4, c5⟩ := mnM_f (M := M7) (n := 24) (k := 7) n7
  obtain ⟨M9, h9⟩ : ∃ X, X = mnM M7 24 7 := ⟨_, rfl⟩
  rw [← h9] at c1 c2 c3 c4 c5
  obtain ⟨M11, h11⟩ : ∃ X, X = wR M9 x 4 (some (x + 19)) := ⟨_, rfl⟩
  have n11 : mN M11 = x + 44 := by rw [h11]; show mN M9 = _; omega
  obtain ⟨d1, d2, d3, d4, d5⟩ := mnM_f (M := M11) (n := 6) (k := 4) n11
  obtain ⟨M13, h13⟩ : ∃ X, X = mnM M11 6 4 := ⟨_, rfl⟩
  rw [← h13] at d1 d2 d3 d4 d5
  obtain ⟨M15, h15⟩ : ∃ X, X = wR M13 x 6 (some (x + 44)) := ⟨_, rfl⟩
  have n15 : mN M15 = x + 51 := by rw [h15]; show mN M13 = _; omega
  obtain ⟨M17, h17⟩ : ∃ X, X = nW M15 28 6 := ⟨_, rfl⟩
  have n17 : mN M17 = x + 52 := by rw [h17]; show mN M15 + 1 = _; omega
  obtain ⟨M19, h19⟩ : ∃ X, X = wR M17 x 7 (some (x + 51)) := ⟨_, rfl⟩
  have n19 : mN M19 = x + 52 := by rw [h19]; exact n17
  -- frames
  have f3 : ∀ c, c ≠ x → SM5 M1 M3 c := fun c hc => by rw [h3]; exact SM5_R hc
  have f7 : ∀ c, c ≠ x → SM5 M5 M7 c := fun c hc => by rw [h7]; exact SM5_R hc
  have f11 : ∀ c, c ≠ x → SM5 M9 M11 c := fun c hc => by rw [h11]; exact SM5_R hc
  have f15 : ∀ c, c ≠ x → SM5 M13 M15 c := fun c hc => by rw [h15]; exact SM5_R hc
  have f17 : ∀ c, c < x + 51 → SM5 M15 M17 c := fun c hc => by rw [h17]; exact SM5_n (by omega)
  have f19 : ∀ c, c ≠ x → SM5 M17 M19 c := fun c hc => by rw [h19]; exact SM5_R hc
  have g15 : ∀ c, c < x + 51 → c ≠ x → SM5 M15 M19 c := fun c h1 h2 => SM5_t (f17 c h1) (f19 c h2)
  have g11 : ∀ c, c < x + 44 → c ≠ x → SM5 M11 M19 c := fun c h1 h2 => SM5_t (d2 c h1) (SM5_t (f15 c h2) (g15 c (by omega) h2))
  have g7 : ∀ c, c < x + 19 → c ≠ x → SM5 M7 M19 c := fun c h1 h2 => SM5_t (c2 c h1) (SM5_t (f11 c h2) (g11 c (by omega) h2))
  have g3 : ∀ c, c < x + 10 → c ≠ x → SM5 M3 M19 c := fun c h1 h2 => SM5_t (b2 c h1) (SM5_t (f7 c h2) (g7 c (by omega) h2))
  have g1 : ∀ c, c < x + 10 → c ≠ x → SM5 M1 M19 c := fun c h1 h2 => SM5_t (f3 c h2) (g3 c h1 h2)
  have g5 : ∀ c, c < x + 19 → c ≠ x → SM5 M5 M19 c := fun c h1 h2 => SM5_t (f7 c h2) (g7 c h1 h2)
  have g9 : ∀ c, c < x + 44 → c ≠ x → SM5 M9 M19 c := fun c h1 h2 => SM5_t (f11 c h2) (g11 c h1 h2)
  have g13 : ∀ c, c < x + 51 → c ≠ x → SM5 M13 M19 c := fun c h1 h2 => SM5_t (f15 c h2) (g15 c h1 h2)
  -- the object itself
  have x1 := a2 x (by omega)
  have x5 := b2 x (by omega)
  have x9 := c2 x (by omega)
  have x13 := d2 x (by omega)
  have x17 := f17 x (by omega)
  have t1 : mT M1 x = 11 := x1.1.trans ht
  have t3 : mT M3 x = 11 := by rw [h3]; exact t1
  have t5 : mT M5 x = 11 := x5.1.trans t3
  have t7 : mT M7 x = 11 := by rw [h7]; exact t5
  have t9 : mT M9 x = 11 := x9.1.trans t7
  have t11 : mT M11 x = 11 := by rw [h11]; exact t9
  have t13 : mT M13 x = 11 := x13.1.trans t11
  have t15 : mT M15 x = 11 := by rw [h15]; exact t13
  have t17 : mT M17 x = 11 := x17.1.trans t15
  have t19 : mT M19 x = 11 := by rw [h19]; exact t17
  have r2 : mR M3 x 2 = some (x + 1) := by rw [h3]; exact up2_eq _ _ _ _
  have r7 : ∀ j, mR M7 x j = if j = 3 then some (x + 10) else mR M3 x j := fun j => by
    rw [h7]
    show up2 (mR M5) x 3 _ x j = _
    by_cases e : j = 3
    · rw [e, up2_eq, if_pos rfl]
    · rw [up2_ne (.inr e), if_neg e, x5.2.2.2.1]
  have r11 : ∀ j, mR M11 x j = if j = 4 then some (x + 19) else mR M7 x j := fun j => by
    rw [h11]
    show up2 (mR M9) x 4 _ x j = _
    by_cases e : j = 4
    · rw [e, up2_eq, if_pos rfl]
    · rw [up2_ne (.inr e), if_neg e, x9.2.2.2.1]
  have r15 : ∀ j, mR M15 x j = if j = 6 then some (x + 44) else mR M11 x j := fun j => by
    rw [h15]
    show up2 (mR M13) x 6 _ x j = _
    by_cases e : j = 6
    · rw [e, up2_eq, if_pos rfl]
    · rw [up2_ne (.inr e), if_neg e, x13.2.2.2.1]
  have r19 : ∀ j, mR M19 x j = if j = 7 then some (x + 51) else mR M15 x j := fun j => by
    rw [h19]
    show up2 (mR M17) x 7 _ x j = _
    by_cases e : j = 7
    · rw [e, up2_eq, if_pos rfl]
    · rw [up2_ne (.inr e), if_neg e, x17.2.2.2.1]
  have i19 : mI M19 x = mI M x := by
    rw [h19]
    show mI M17 x = _
    rw [x17.2.2.1, h15]
    show mI M13 x = _
    rw [x13.2.2.1, h11]
    show mI M9 x = _
    rw [x9.2.2.1, h7]
    show mI M5 x = _
    rw [x5.2.2.1, h3]
    exact x1.2.2.1
  have t51 : mT M19 (x + 51) = 28 ∧ mL M19 (x + 51) = 6 := by
    have k := f19 (x + 51) (by omega)
    rw [k.1, k.2.1, h17]
    show up1 (mT M15) (mN M15) 28 (x + 51) = 28 ∧ up1 (mL M15) (mN M15) 6 (x + 51) = 6
    rw [n15, up1_e, up1_e]
    exact ⟨rfl, rfl⟩
  have S19 : SIM x M19 := by
    refine ⟨t19, by omega, ⟨?_, ?_, ?_, ?_, ?_⟩, ⟨(g1 _ (by omega) (by omega)).1.trans a3, (g1 _ (by omega) (by omega)).2.1.trans a4, fun i hi => ?_⟩, ⟨(g5 _ (by omega) (by omega)).1.trans b3, (g5 _ (by omega) (by omega)).2.1.trans b4⟩, ⟨(g9 _ (by omega) (by omega)).1.trans c3, (g9 _ (by omega) (by omega)).2.1.trans c4⟩, ⟨(g13 _ (by omega) (by omega)).1.trans d3, (g13 _ (by omega) (by omega)).2.1.trans d4⟩, t51.1, t51.2⟩
    · rw [r19, if_neg (by decide), r15, if_neg (by decide), r11, if_neg (by decide), r7, if_neg (by decide)]; exact r2
    · rw [r19, if_neg (by decide), r15, if_neg (by decide), r11, if_neg (by decide), r7, if_pos rfl]
    · rw [r19, if_neg (by decide), r15, if_neg (by decide), r11, if_pos rfl]
    · rw [r19, if_neg (by decide), r15, if_pos rfl]
    · rw [r19, if_pos rfl]
    · obtain ⟨q1, q2, q3, q4⟩ := a5 i hi
      have k1 := g1 (x + 1) (by omega) (by omega)
      have k2 := g1 (x + 1 + 1 + i) (by omega) (by omega)
      refine ⟨by rw [k1.2.2.2.1]; exact q1, k2.1.trans q2, k2.2.1.trans q3⟩
  have low : ∀ c, c < x → SM5 M M19 c := fun c hc => SM5_t (a2 c (by omega)) (g1 c (by omega) (by omega))
  -- the rest
  unfold f_X12_init b_X12_init_0
  simp only [show ((8 : Int32)).toNatClampNeg = 8 from rfl, show ((6 : Int32)).toNatClampNeg = 6 from rfl, show ((4 : Int32)).toNatClampNeg = 4 from rfl, show ((24 : Int32)).toNatClampNeg = 24 from rfl, show ((7 : Int32)).toNatClampNeg = 7 from rfl, show ((3 : Int32)).toNatClampNeg = 3 from rfl]
  rw [lw_S, ← h1, ck_t t1, hx, lw_S, ← h3, lw_S, ← h5, ck_t t5, n3, lw_S, ← h7, lw_S, ← h9, ck_t t9, n7, lw_S, ← h11, lw_S, ← h13, ck_t t13, n11, lw_S, ← h15, lw_S, ← h17, ck_t t17, n15, lw_S, ← h19]
  show PX12 M x _
  have fin : ∀ M', SIM x M' → FXs x M19 M' → mN M' = x + 75 → PX12 M x (some ((), M')) := fun M' S F N => ⟨M', rfl, S, N, fun c hc => SM5_t (low c hc) (F.1 c (by omega) (by omega)), F.2.2.1.trans i19⟩
  refine yq_J S19 (fun M21 S21 F21 N21 => ?_)
  refine yq_n S21 (fun M23 S23 F23 N23 _ _ => p_ck S23.1 ?_)
  refine yq_R S23 (by decide) (fun M25 S25 F25 N25 => ?_)
  refine yq_m S25 (fun M27 S27 F27 N27 => p_ck S27.1 ?_)
  refine yq_R S27 (by decide) (fun M29 S29 F29 N29 => ?_)
  refine yq_n S29 (fun M31 S31 F31 N31 _ _ => p_ck S31.1 ?_)
  refine yq_R S31 (by decide) (fun M33 S33 F33 N33 => ?_)
  refine yq_n S33 (fun M35 S35 F35 N35 _ _ => p_ck S35.1 ?_)
  refine yq_R S35 (by decide) (fun M37 S37 F37 N37 => ?_)
  refine yq_n S37 (fun M39 S39 F39 N39 T39 L39 => p_ck T39 (p_ck (by rw [L39]; decide) ?_))
  refine yq_I S39 S37.2.1 (fun M42 S42 F42 N42 T42 L42 => p_ck (by rw [L42, L39]; decide) ?_)
  refine yq_I S42 S37.2.1 (fun M45 S45 F45 N45 T45 L45 => p_ck (by rw [L45, L42, L39]; decide) ?_)
  refine yq_I S45 S37.2.1 (fun M48 S48 F48 N48 T48 L48 => p_ck (by rw [L48, L45, L42, L39]; decide) ?_)
  refine yq_I S48 S37.2.1 (fun M51 S51 F51 N51 T51 L51 => p_ck (by rw [L51, L48, L45, L42, L39]; decide) ?_)
  refine yq_I S51 S37.2.1 (fun M54 S54 F54 N54 T54 L54 => p_ck (by rw [L54, L51, L48, L45, L42, L39]; decide) ?_)
  refine yq_I S54 S37.2.1 (fun M57 S57 F57 N57 T57 L57 => p_ck (by rw [L57, L54, L51, L48, L45, L42, L39]; decide) ?_)
  refine yq_I S57 S37.2.1 (fun M60 S60 F60 N60 T60 L60 => p_ck (by rw [L60, L57, L54, L51, L48, L45, L42, L39]; decide) ?_)
  refine yq_I S60 S37.2.1 (fun M63 S63 F63 N63 T63 L63 => p_ck S63.1 ?_)
  refine yq_R S63 (by decide) (fun M66 S66 F66 N66 => ?_)
  refine yq_n S66 (fun M69 S69 F69 N69 _ _ => p_ck S69.1 ?_)
  refine yq_R S69 (by decide) (fun M71 S71 F71 N71 => ?_)
  refine yq_n S71 (fun M73 S73 F73 N73 _ _ => p_ck S73.1 ?_)
  refine yq_R S73 (by decide) (fun M75 S75 F75 N75 => ?_)
  refine yq_m S75 (fun M77 S77 F77 N77 => p_ck S77.1 ?_)
  refine yq_R S77 (by decide) (fun M79 S79 F79 N79 => ?_)
  refine yq_n S79 (fun M81 S81 F81 N81 _ _ => p_ck S81.1 ?_)
  refine yq_R S81 (by decide) (fun M83 S83 F83 N83 => ?_)
  refine fin M83 S83 (FXs_t F21 (FXs_t F23 (FXs_t F25 (FXs_t F27 (FXs_t F29 (FXs_t F31 (FXs_t F33 (FXs_t F35 (FXs_t F37 (FXs_t F39 (FXs_t F42 (FXs_t F45 (FXs_t F48 (FXs_t F51 (FXs_t F54 (FXs_t F57 (FXs_t F60 (FXs_t F63 (FXs_t F66 (FXs_t F69 (FXs_t F71 (FXs_t F73 (FXs_t F75 (FXs_t F77 (FXs_t F79 (FXs_t F81 F83)))))))))))))))))))))))))) ?_
  omega
/-- the law's numbers -/
def clZ (Z : Nat → Nat) (k : Nat) : Int32 := if Z 401 ≤ k then (790386105 : Int32) * (nI k + 3) else Int32.ofNat (Z (1000 + k))
theorem l_cell {Z : Nat → Nat} {M : gMem} {k : Nat} (hk : k < 2 ^ 30) (hZ : Z 401 < 2 ^ 30) : f_L_cell Z M (nI k) = some (clZ Z k, M) := by
  unfold f_L_cell b_L_cell_0 b_L_cell_18 clZ
  by_cases c : Z 401 ≤ k
  · rw [if_pos (show Int32.ofNat (Z 401) ≤ nI k from (nI_leI (by omega) (by omega)).mpr c), if_pos c]
  · rw [if_neg (show ¬ Int32.ofNat (Z 401) ≤ nI k from fun z => c ((nI_leI (by omega) (by omega)).mp z)), if_neg c, ck_t ((inbN (by omega)).mpr (by omega)), nI_clamp (by omega)]
def blw (v : Int32) (n : Nat) : Nat := (v &&& (2147483647 : Int32)).toNatClampNeg % n
theorem and_n (v : Int32) : ∃ m, m < 2 ^ 31 ∧ v &&& (2147483647 : Int32) = nI m := by
  refine ⟨(v &&& (2147483647 : Int32)).toBitVec.toNat, ?_, ?_⟩
  · have h : (v &&& (2147483647 : Int32)).toBitVec = v.toBitVec &&& (2147483647 : BitVec 32) := by simp
    rw [h, BitVec.toNat_and]
    exact Nat.lt_of_le_of_lt Nat.and_le_right (by decide)
  · apply Int32.toBitVec_inj.mp
    show _ = (Int32.ofNat _).toBitVec
    simp [nI]
theorem l_below {M : gMem} {v : Int32} {n : Nat} (h0 : 0 < n) (hn : n < 2 ^ 31) : f_L_below M v (nI n) = some (nI (blw v n), M) ∧ blw v n < n := by
  obtain ⟨m, m1, m2⟩ := and_n v
  unfold f_L_below b_L_below_0 blw
  rw [m2, ck_t (show ¬ nI n = 0 from fun z => by have := (nI_eq (a := n) (b := 0) hn (by decide)).mp z; omega), nI_rem m1 hn, nI_clamp m1]
  exact ⟨rfl, Nat.mod_lt _ h0⟩
