/-! ## Pure: the law's builder beside the shore by hand: a line of a ground -/
/-- but for builders and bytes all stays -/
def FRt (M M' : gMem) : Prop := (∀ c, c < mN M → mT M' c = mT M c ∧ mL M' c = mL M c ∧ (mT M c ≠ 13 → mT M c ≠ 22 → mI M' c = mI M c ∧ mR M' c = mR M c)) ∧ mN M ≤ mN M'
theorem FRt_r (M : gMem) : FRt M M := ⟨fun _ _ => ⟨rfl, rfl, fun _ _ => ⟨rfl, rfl⟩⟩, Nat.le_refl _⟩
theorem FRt_t {M X Y : gMem} (h : FRt M X) (k : FRt X Y) : FRt M Y := ⟨fun c hc => by
    obtain ⟨a1, a2, a3⟩ := h.1 c hc
    obtain ⟨b1, b2, b3⟩ := k.1 c (Nat.lt_of_lt_of_le hc h.2)
    refine ⟨b1.trans a1, b2.trans a2, fun h13 h22 => ?_⟩
    obtain ⟨c1, c2⟩ := a3 h13 h22
    obtain ⟨d1, d2⟩ := b3 (by rw [a1]; exact h13) (by rw [a1]; exact h22)
    exact ⟨d1.trans c1, d2.trans c2⟩, Nat.le_trans h.2 k.2⟩
theorem FRt_v {a v : Nat} {L : List Nat} {M M' : gMem} (S : SBv a v L M) (h : FRv a v M M') : FRt M M' := ⟨fun c hc => by
    obtain ⟨h1, h2, h3⟩ := h
    obtain ⟨a1, a2, a3⟩ := h1 c hc
    refine ⟨a1, a2, fun h13 h22 => h2 c hc (fun z => ?_) (fun z => ?_)⟩
    · subst z; exact h13 S.1.1
    · subst z; exact h22 S.2.1.1, h.2.2⟩
theorem SIM_f {x : Nat} {M M' : gMem} (S : SIM x M) (h : FRt M M') : SIM x M' := by
  obtain ⟨s1, s2, ⟨r2, r3, r4, r6, r7⟩, ⟨a1, a2, a3⟩, ⟨b1, b2⟩, ⟨c1, c2⟩, ⟨d1, d2⟩, e1, e2⟩ := S
  have T : ∀ d, d < 52 → mT M (x + d) ≠ 13 → mT M (x + d) ≠ 22 → mT M' (x + d) = mT M (x + d) ∧ mL M' (x + d) = mL M (x + d) ∧ mR M' (x + d) = mR M (x + d) := fun d hd h13 h22 => by
    obtain ⟨z1, z2, z3⟩ := h.1 (x + d) (by omega)
    exact ⟨z1, z2, (z3 h13 h22).2⟩
  have T0 := T 0 (by decide) (by rw [Nat.add_zero, s1]; decide) (by rw [Nat.add_zero, s1]; decide)
  rw [Nat.add_zero] at T0
  have T1 := T 1 (by decide) (by rw [a1]; decide) (by rw [a1]; decide)
  have T10 := T 10 (by decide) (by rw [b1]; decide) (by rw [b1]; decide)
  have T19 := T 19 (by decide) (by rw [c1]; decide) (by rw [c1]; decide)
  have T44 := T 44 (by decide) (by rw [d1]; decide) (by rw [d1]; decide)
  have T51 := T 51 (by decide) (by rw [e1]; decide) (by rw [e1]; decide)
  refine ⟨T0.1.trans s1, Nat.le_trans s2 h.2, ⟨by rw [T0.2.2]; exact r2, by rw [T0.2.2]; exact r3, by rw [T0.2.2]; exact r4, by rw [T0.2.2]; exact r6, by rw [T0.2.2]; exact r7⟩, ⟨T1.1.trans a1, T1.2.1.trans a2, fun i hi => ?_⟩, ⟨T10.1.trans b1, T10.2.1.trans b2⟩, ⟨T19.1.trans c1, T19.2.1.trans c2⟩, ⟨T44.1.trans d1, T44.2.1.trans d2⟩, T51.1.trans e1, T51.2.1.trans e2⟩
  obtain ⟨q1, q2, q3⟩ := a3 i hi
  obtain ⟨z1, z2, -⟩ := h.1 (x + 2 + i) (by omega)
  exact ⟨by rw [T1.2.2]; exact q1, z1.trans q2, z2.trans q3⟩
/-- the builder at a with the text L, at most c bytes; the shore by hand at x -/
def BS (a x c : Nat) (L : List Nat) (M : gMem) : Prop := (∃ v, SBv a v L M) ∧ L.length ≤ c ∧ SIM x M
theorem BS_I {a x c w k : Nat} {L : List Nat} {M : gMem} {y : Int32} (S : BS a x c L M) (h : mT M w = 20) : BS a x c L (wI M w k y) := by
  obtain ⟨⟨v, ⟨t1, r1, c1, n1⟩, ⟨t2, l1, l2⟩, o, b1, b2⟩, hc, hs⟩ := S
  have ha : a ≠ w := fun z => by rw [z, h] at t1; exact absurd t1 (by decide)
  have hv : v ≠ w := fun z => by rw [z, h] at t2; exact absurd t2 (by decide)
  have ea : ∀ j, mI (wI M w k y) a j = mI M a j := fun j => up2_ne (.inl ha)
  have ev : ∀ j, mI (wI M w k y) v j = mI M v j := fun j => up2_ne (.inl hv)
  exact ⟨⟨v, ⟨t1, r1, by rw [ea]; exact c1, by rw [ea]; exact n1⟩, ⟨t2, l1, l2⟩, o, fun i hi => by rw [ev]; exact b1 i hi, fun i hi => by rw [ev]; exact b2 i hi⟩, hc, hs⟩
section RB
variable {Z : Nat → Nat} {a x c : Nat} {L : List Nat} {M : gMem} {β : Type} {P : Option β → Prop}
theorem r_app {j e : Nat} {K : Option Nat → gMem → Option β} (S : BS a x c L M) (hj : j < 94) (he : (sLs j).length ≤ e) (hc : c + e ≤ 1199) (h : ∀ M', BS a x (c + e) (L ++ sLs j) M' → FRt M M' → P (K (some a) M')) : P (bd (f_J4_append_15ec4_S Z M a j) K) := by
  obtain ⟨⟨v, S⟩, hl, hs⟩ := S
  obtain ⟨v', M', e1, S', F, -, -⟩ := sb_app (Z := Z) S hj (by omega)
  have ft := FRt_v S F
  rw [e1, bd_S]
  exact h M' ⟨⟨v', S'⟩, by rw [List.length_append]; omega, SIM_f hs ft⟩ ft
theorem r_int {y d : Nat} {z : Int32} {K : Option Nat → gMem → Option β} (S : BS a x c L M) (hz : z = nI y) (hy : y < 1000) (hd : (dgL y).length ≤ d) (hc : c + d ≤ 1199) (h : ∀ M', BS a x (c + d) (L ++ dgL y) M' → FRt M M' → P (K (some a) M')) : P (bd (f_J4_append_bf812 Z M a z) K) := by
  subst hz
  obtain ⟨⟨v, S⟩, hl, hs⟩ := S
  obtain ⟨v', M', e1, S', F, -, -⟩ := sb_int (Z := Z) S hy (by omega)
  have ft := FRt_v S F
  rw [e1, bd_S]
  exact h M' ⟨⟨v', S'⟩, by rw [List.length_append]; omega, SIM_f hs ft⟩ ft
theorem r_da {K : Nat → Option β} (S : BS a x c L M) (k : P (K a)) : P (dr (some a) fun q => ck (mT M q = 13) (K q)) := by
  obtain ⟨⟨v, S⟩, -, -⟩ := S
  rw [dr_S, ck_t S.1.1]; exact k
theorem r_dx {K : Nat → Option β} (S : BS a x c L M) (k : P (K x)) : P (dr (some x) fun q => ck (mT M q = 11) (K q)) := by
  rw [dr_S, ck_t S.2.2.1]; exact k
theorem r_cell {k : Nat} {y : Int32} {K : Int32 → gMem → Option β} (hy : y = nI k) (hk : k < 2 ^ 30) (hZ : Z 401 < 2 ^ 30) (h : P (K (clZ Z k) M)) : P (bd (f_L_cell Z M y) K) := by
  rw [hy, l_cell hk hZ, bd_S]; exact h
theorem r_below {n : Nat} {v y : Int32} {K : Int32 → gMem → Option β} (hy : y = nI n) (h0 : 0 < n) (hn : n < 2 ^ 31) (h : ∀ r, r < n → P (K (nI r) M)) : P (bd (f_L_below M v y) K) := by
  obtain ⟨e, lt⟩ := l_below (M := M) (v := v) h0 hn
  rw [hy, e, bd_S]; exact h _ lt
end RB
theorem dgL_1 {x : Nat} (h : x < 10) : (dgL x).length ≤ 1 := by rw [dgL_l, if_pos h]; exact Nat.le_refl _
theorem dgL_2 {x : Nat} (h : x < 100) : (dgL x).length ≤ 2 := by
  rw [dgL_l]
  split
  · omega
  · first | exact Nat.le_refl _ | (rw [if_pos h]; exact Nat.le_refl _)
/-- the sizes of a ground as a text -/
def zT : Nat → List Nat → List Nat
  | _, [] => []
  | k, z :: r => sLs (if 1 < k then 79 else 67) ++ dgL z ++ zT (k + 1) r
theorem zT_app : ∀ (l : List Nat) (k z : Nat), zT k (l ++ [z]) = zT k l ++ sLs (if 1 < k + l.length then 79 else 67) ++ dgL z
  | [], k, z => by simp [zT]
  | y :: l, k, z => by
    show sLs (if 1 < k then 79 else 67) ++ dgL y ++ zT (k + 1) (l ++ [z]) = _
    rw [zT_app l (k + 1) z, show k + 1 + l.length = k + (y :: l).length by simp [List.length_cons]; omega]
    simp [zT, List.append_assoc]
def gT (g r : Nat) (zs : List Nat) : List Nat := sLs 76 ++ dgL g ++ sLs 77 ++ dgL r ++ sLs 78 ++ zT 1 zs ++ sLs (if g % 2 = 0 then 80 else 81)
def gTs : Nat → List (Nat × List Nat) → List Nat
  | _, [] => []
  | g, y :: t => gT g y.1 y.2 ++ gTs (g + 1) t
theorem gTs_app : ∀ (l : List (Nat × List Nat)) (g : Nat) (y : Nat × List Nat), gTs g (l ++ [y]) = gTs g l ++ gT (g + l.length) y.1 y.2
  | [], g, y => by simp [gTs]
  | z :: l, g, y => by
    show gT g z.1 z.2 ++ gTs (g + 1) (l ++ [y]) = _
    rw [gTs_app l (g + 1) y, show g + 1 + l.length = g + (z :: l).length by simp [List.length_cons]; omega]
    simp [gTs, List.append_assoc]
/-- what comes next in the loop of the sizes -/
def PZ (a x c g kc kn m : Nat) (L : List Nat) (M : gMem) (zs : List Nat) (o : Option ((gMem × Nat × Nat × Int32) ⊕ ((gMem × Nat × Nat × Int32) ⊕ (Option Nat × gMem)))) : Prop := ∃ M' z kc' kn', o = some (.inl (M', kc', kn', nI (m + 1))) ∧ z < 100 ∧ BS a x (c + 3) (L ++ zT 1 (zs ++ [z])) M' ∧ mI M' x = mI M x ∧ kc' ≤ kc + 2 ∧ kn' ≤ kn + 4800
set_option maxRecDepth 20000 in
theorem sz_step {Z : Nat → Nat} {a x c g kc kn m s : Nat} {L : List Nat} {M : gMem} {zs : List Nat} {y : Int32} (S : BS a x c (L ++ zT 1 zs) M) (hm : m = zs.length + 1) (hg : g < 4) (hs : s ≤ 5) (hms : m ≤ s) (hc : c + 3 ≤ 1199) (hk : kc + 2 ≤ 800 ∧ kn + 4800 ≤ 1200000) : PZ a x c g kc kn m L M zs (bb_L_shore_130 Z M kc kn (some a) (some x) (nI g) y (nI s) (nI m)) := by
  have q1 : ¬ nI s < nI m := fun z => by have := (nI_ltI (by omega) (by omega)).mp z; omega
  obtain ⟨r2, -, -, -, -⟩ := S.2.2.2.2.1
  obtain ⟨a1, a2, a3⟩ := S.2.2.2.2.2.1
  obtain ⟨w1, w2, w3⟩ := a3 g (by omega)
  have go : ∀ (q : Nat), q = 100 ∨ q = 12 → PZ a x c g kc kn m L M zs (b_L_shore_170 Z M (kc + 0) (kn + 0) (some a) (some x) (nI g) y (nI s) (nI m) (some (x + 2 + g)) (nI m) (y >>> (((2 : Int32) * nI m) &&& 31)) (nI q)) := fun q hq => by
    unfold b_L_shore_170
    refine p_ck ⟨by omega, by omega⟩ ?_
    refine r_below rfl (by omega) (by omega) (fun z hz => ?_)
    rw [dr_S, ck_t w2, ck_t (show inb (nI m) (mL M (x + 2 + g)) by rw [w3]; exact (inbN (by omega)).mpr (by omega)), nI_clamp (by omega), lw_S]
    have S1 : BS a x c (L ++ zT 1 zs) (wI M (x + 2 + g) m (nI z)) := BS_I S w2
    have e1 : mI (wI M (x + 2 + g) m (nI z)) (x + 2 + g) m = nI z := up2_eq _ _ _ _
    have ex : mI (wI M (x + 2 + g) m (nI z)) x = mI M x := (SM5_I (by omega)).2.2.1
    have t20 : mT (wI M (x + 2 + g) m (nI z)) (x + 2 + g) = 20 := w2
    have n2 : x + 2 + g < mN (wI M (x + 2 + g) m (nI z)) := by have := S.2.2.2.1; show x + 2 + g < mN M; omega
    have nx : x < mN (wI M (x + 2 + g) m (nI z)) := by omega
    have tx : mT (wI M (x + 2 + g) m (nI z)) x = 11 := S.2.2.1
    generalize wI M (x + 2 + g) m (nI z) = M1 at S1 e1 ex t20 n2 nx tx
    have fin : ∀ jj, jj < 94 → (sLs jj).length ≤ 1 → jj = (if 1 < 1 + zs.length then 79 else 67) → PZ a x c g kc kn m L M zs (b_L_shore_188 Z M1 (kc + 0 + 0) (kn + 0 + 0) (some a) (some x) (nI g) y (nI s) (nI m) (some a) jj) := fun jj hj1 hj2 hj3 => by
      unfold b_L_shore_188
      refine r_da S1 (p_ck ⟨by omega, by omega⟩ ?_)
      refine r_app S1 hj1 hj2 (by omega) (fun M2 S2 F2 => ?_)
      obtain ⟨u1, u2, u3⟩ := F2.1 (x + 2 + g) n2
      obtain ⟨u4, u5⟩ := u3 (by rw [t20]; decide) (by rw [t20]; decide)
      obtain ⟨-, -, v3⟩ := F2.1 x nx
      obtain ⟨v4, -⟩ := v3 (by rw [tx]; decide) (by rw [tx]; decide)
      obtain ⟨rr2, -, -, -, -⟩ := S2.2.2.2.2.1
      obtain ⟨aa1, aa2, aa3⟩ := S2.2.2.2.2.2.1
      obtain ⟨ww1, ww2, ww3⟩ := aa3 g (by omega)
      refine r_dx S2 ?_
      rw [rr2, dr_S, ck_t aa1, ck_t (show inb (nI g) (mL M2 (x + 1)) by rw [aa2]; exact (inbN (by omega)).mpr (by omega)), nI_clamp (by omega), ww1, dr_S, ck_t ww2, ck_t (show inb (nI m) (mL M2 (x + 2 + g)) by rw [ww3]; exact (inbN (by omega)).mpr (by omega))]
      refine r_da S2 (p_ck ⟨by omega, by omega⟩ ?_)
      refine r_int S2 (y := z) (d := 2) (by rw [nI_clamp (by omega), u4]; exact e1) (by omega) (dgL_2 (by omega)) (by omega) (fun M3 S3 F3 => ?_)
      obtain ⟨z1, z2, z3⟩ := F3.1 x (Nat.lt_of_lt_of_le nx F2.2)
      obtain ⟨z4, -⟩ := z3 (by rw [S2.2.2.1]; decide) (by rw [S2.2.2.1]; decide)
      refine ⟨M3, z, _, _, by rw [nI_1], by omega, ?_, (z4.trans v4).trans ex, by omega, by omega⟩
      rw [zT_app, ← hj3, ← List.append_assoc, ← List.append_assoc]
      exact ⟨S3.1, by have := S3.2.1; omega, S3.2.2⟩
    by_cases c1 : nI m ≤ (1 : Int32)
    · rw [if_pos c1]
      have : m ≤ 1 := (nI_leI (b := 1) (by omega) (by decide)).mp c1
      exact fin 67 (by decide) (by decide) (by rw [if_neg (by omega)])
    · rw [if_neg c1]
      have : ¬ m ≤ 1 := fun z => c1 ((nI_leI (b := 1) (by omega) (by decide)).mpr z)
      exact fin 79 (by decide) (by decide) (by rw [if_pos (by omega)])
  unfold bb_L_shore_130
  rw [if_neg q1]
  refine r_dx S ?_
  rw [r2, dr_S, ck_t a1, ck_t (show inb (nI g) (mL M (x + 1)) by rw [a2]; exact (inbN (by omega)).mpr (by omega))]
  refine p_ck ⟨by omega, by omega⟩ ?_
  refine r_below (n := 2) rfl (by decide) (by decide) (fun r hr => ?_)
  rw [nI_clamp (by omega), w1]
  by_cases c0 : nI r = 0
  · rw [if_pos c0]; exact go 100 (.inl rfl)
  · rw [if_neg c0]; exact go 12 (.inr rfl)
