/-! ## Pure: a tide reads what is told alone: grounds, fishers, goes, pacts below their counts (u: who cheats, too) -/
def KU (u : Prop) (F G np ng len d k : Nat) : Prop :=
  (d = 0 ∧ k < 6) ∨ (d = 7 ∧ k < len) ∨ (18 ≤ d ∧ d < 18 + 2 * G ∧ ((d % 2 = 0 ∧ k < 3) ∨ (d % 2 = 1 ∧ 1 ≤ k ∧ k < 6))) ∨ (34 ≤ d ∧ d < 34 + 2 * F ∧ ((d % 2 = 0 ∧ k < 10 ∧ (k = 9 → u)) ∨ (d % 2 = 1 ∧ k < 8))) ∨ (50 ≤ d ∧ d < 50 + ng ∧ k < 4) ∨ (74 ≤ d ∧ d < 74 + 2 * np ∧ k < 8 ∧ (d % 2 = 0 → k ≠ 4))
def eqK (u : Prop) (F G np ng len : Nat) (A A' : Nat → Nat → Int32) : Prop := ∀ d k, KU u F G np ng len d k → A' d k = A d k
/-- the names in sums are of fishers and grounds that are told -/
def VB (pg : Nat → Nat) (A : Nat → Nat → Int32) (F G len : Nat) : Prop := ∀ s, s < len → (gSw (pg s) = 7 ∨ gSw (pg s) = 15 ∨ gSw (pg s) = 16 ∨ gSw (pg s) = 17 → ∃ j, j < F ∧ A 7 s = nI j) ∧ (gSw (pg s) = 18 ∨ gSw (pg s) = 19 → ∃ j, j < G ∧ A 7 s = nI j)
section CG
variable {u : Prop} {F G np ng len : Nat} {A A' : Nat → Nat → Int32}
theorem kg (h : eqK u F G np ng len A A') {g k : Nat} (hg : g < G) (hk : k < 3) : A' (18 + 2 * g) k = A (18 + 2 * g) k := h _ _ (.inr (.inr (.inl ⟨by omega, by omega, .inl ⟨by omega, hk⟩⟩)))
theorem ks (h : eqK u F G np ng len A A') {g k : Nat} (hg : g < G) (h1 : 1 ≤ k) (h2 : k ≤ 5) : A' (19 + 2 * g) k = A (19 + 2 * g) k := h _ _ (.inr (.inr (.inl ⟨by omega, by omega, .inr ⟨by omega, h1, by omega⟩⟩)))
theorem kf (h : eqK u F G np ng len A A') {f k : Nat} (hf : f < F) (hk : k < 9) : A' (34 + 2 * f) k = A (34 + 2 * f) k := h _ _ (.inr (.inr (.inr (.inl ⟨by omega, by omega, .inl ⟨by omega, by omega, fun z => by omega⟩⟩))))
theorem kf9 (h : eqK u F G np ng len A A') (hu : u) {f : Nat} (hf : f < F) : A' (34 + 2 * f) 9 = A (34 + 2 * f) 9 := h _ _ (.inr (.inr (.inr (.inl ⟨by omega, by omega, .inl ⟨by omega, by omega, fun _ => hu⟩⟩))))
theorem kt (h : eqK u F G np ng len A A') {f k : Nat} (hf : f < F) (hk : k < 8) : A' (35 + 2 * f) k = A (35 + 2 * f) k := h _ _ (.inr (.inr (.inr (.inl ⟨by omega, by omega, .inr ⟨by omega, hk⟩⟩))))
theorem ko (h : eqK u F G np ng len A A') {i k : Nat} (hi : i < ng) (hk : k < 4) : A' (50 + i) k = A (50 + i) k := h _ _ (.inr (.inr (.inr (.inr (.inl ⟨by omega, by omega, hk⟩)))))
theorem kp (h : eqK u F G np ng len A A') {p k : Nat} (hp : p < np) (hk : k < 8) (h4 : k ≠ 4) : A' (74 + 2 * p) k = A (74 + 2 * p) k := h _ _ (.inr (.inr (.inr (.inr (.inr ⟨by omega, by omega, hk, fun _ => h4⟩)))))
theorem km (h : eqK u F G np ng len A A') {p k : Nat} (hp : p < np) (hk : k < 8) : A' (75 + 2 * p) k = A (75 + 2 * p) k := h _ _ (.inr (.inr (.inr (.inr (.inr ⟨by omega, by omega, hk, fun z => by omega⟩)))))
theorem k0 (h : eqK u F G np ng len A A') {k : Nat} (hk : k < 6) : A' 0 k = A 0 k := h _ _ (.inl ⟨rfl, hk⟩)
theorem k7 (h : eqK u F G np ng len A A') {k : Nat} (hk : k < len) : A' 7 k = A 7 k := h _ _ (.inr (.inl ⟨rfl, hk⟩))
theorem k_2 (h : eqK u F G np ng len A A') {d k : Nat} {v v' : Int32} (e : v' = v) : eqK u F G np ng len (up2 A d k v) (up2 A' d k v') := fun a j hj => by
  rw [e]
  by_cases c : a = d ∧ j = k
  · rw [c.1, c.2, up2_eq, up2_eq]
  · rw [up2_ne (by omega), up2_ne (by omega)]; exact h a j hj
theorem k_1 (h : eqK u F G np ng len A A') {d : Nat} {r r' : Nat → Int32} (e : ∀ k, KU u F G np ng len d k → r' k = r k) : eqK u F G np ng len (up1 A d r) (up1 A' d r') := fun a j hj => by
  by_cases c : a = d
  · subst c; rw [up1_e, up1_e]; exact e j hj
  · rw [up1_o c, up1_o c]; exact h a j hj
theorem k_8 (h : eqK u F G np ng len A A') {k k' : Nat} {v v' : Int32} : eqK u F G np ng len (up2 A 8 k v) (up2 A' 8 k' v') := fun a j hj => by
  have : a ≠ 8 := fun z => by subst z; unfold KU at hj; omega
  rw [up2_ne (.inl this), up2_ne (.inl this)]; exact h a j hj
end CG
theorem sum5_c {f h : Nat → Int32} (e : ∀ s, 1 ≤ s → s ≤ 5 → f s = h s) : sum5 f 5 = sum5 h 5 := by
  show ((((0 + f 1) + f 2) + f 3) + f 4) + f 5 = ((((0 + h 1) + h 2) + h 3) + h 4) + h 5
  rw [e 1 (by decide) (by decide), e 2 (by decide) (by decide), e 3 (by decide) (by decide), e 4 (by decide) (by decide), e 5 (by decide) (by decide)]
/-- the sums -/
theorem k_val {u : Prop} {F G np ng len : Nat} {s s' : Nat → Nat → Int32} (hF : F ≤ 8) (hG : G ≤ 8) (h : eqK u F G np ng len s s') {g : Nat} {v : Int32} (h7 : gSw g = 7 → u) (hf : gSw g = 7 ∨ gSw g = 15 ∨ gSw g = 16 ∨ gSw g = 17 → ∃ j, j < F ∧ v = nI j) (hg : gSw g = 18 ∨ gSw g = 19 → ∃ j, j < G ∧ v = nI j) : valN s' g v = valN s g v := by
  unfold valN
  by_cases c7 : gSw g = 7
  · obtain ⟨j, j1, j2⟩ := hf (.inl c7)
    rw [if_pos c7, if_pos c7, j2, nI_clamp (by omega), kf9 h (h7 c7) j1]
  rw [if_neg c7, if_neg c7]
  by_cases c14 : gSw g = 14
  · rw [if_pos c14, if_pos c14, k0 h (by decide)]
  rw [if_neg c14, if_neg c14]
  by_cases c15 : gSw g = 15
  · obtain ⟨j, j1, j2⟩ := hf (.inr (.inl c15))
    rw [if_pos c15, if_pos c15, j2, nI_clamp (by omega), kf h j1 (by decide)]
  rw [if_neg c15, if_neg c15]
  by_cases c16 : gSw g = 16
  · obtain ⟨j, j1, j2⟩ := hf (.inr (.inr (.inl c16)))
    rw [if_pos c16, if_pos c16, j2, nI_clamp (by omega), kf h j1 (by decide)]
  rw [if_neg c16, if_neg c16]
  by_cases c17 : gSw g = 17
  · obtain ⟨j, j1, j2⟩ := hf (.inr (.inr (.inr c17)))
    rw [if_pos c17, if_pos c17, j2, nI_clamp (by omega), kf h j1 (by decide)]
  rw [if_neg c17, if_neg c17]
  by_cases c18 : gSw g = 18
  · obtain ⟨j, j1, j2⟩ := hg (.inl c18)
    rw [if_pos c18, if_pos c18, j2, nI_clamp (by omega)]
    exact sum5_c fun s s1 s2 => ks h j1 s1 s2
  rw [if_neg c18, if_neg c18]
  by_cases c19 : gSw g = 19
  · obtain ⟨j, j1, j2⟩ := hg (.inr c19)
    rw [if_pos c19, if_pos c19, j2, nI_clamp (by omega), kg h j1 (by decide)]
  rw [if_neg c19, if_neg c19]
theorem k_rk1 {u : Prop} {F G np ng len : Nat} {pg : Nat → Nat} {i t : Nat} {s s' : Nat → Nat → Int32} (hF : F ≤ 8) (hG : G ≤ 8) (h : eqK u F G np ng len s s') (h2 : ∀ k, k < t → s' 8 k = s 8 k) (hi : i < len) (h7 : gSw (pg i) = 7 → u) (hf : gSw (pg i) = 7 ∨ gSw (pg i) = 15 ∨ gSw (pg i) = 16 ∨ gSw (pg i) = 17 → ∃ j, j < F ∧ s 7 i = nI j) (hg : gSw (pg i) = 18 ∨ gSw (pg i) = 19 → ∃ j, j < G ∧ s 7 i = nI j) : (rk1 pg i (s', t)).2 = (rk1 pg i (s, t)).2 ∧ ∀ k, k < (rk1 pg i (s, t)).2 → (rk1 pg i (s', t)).1 8 k = (rk1 pg i (s, t)).1 8 k := by
  unfold rk1
  by_cases c1 : isPush (pg i)
  · simp only [if_pos c1]
    refine ⟨trivial, fun k hk => ?_⟩
    by_cases e : k = t
    · subst e
      rw [up2_eq, up2_eq, k7 h hi, k_val hF hG h h7 hf hg]
    · rw [up2_ne (.inr e), up2_ne (.inr e), h2 k (by omega)]
  · simp only [if_neg c1]
    by_cases c2 : isUn (pg i)
    · simp only [if_pos c2]
      by_cases c3 : t < 1
      · simp only [if_pos c3]
        exact ⟨trivial, h2⟩
      · simp only [if_neg c3]
        refine ⟨trivial, fun k hk => ?_⟩
        by_cases e : k = t - 1
        · subst e
          rw [up2_eq, up2_eq, h2 (t - 1) (by omega)]
        · rw [up2_ne (.inr e), up2_ne (.inr e), h2 k hk]
    · simp only [if_neg c2]
      by_cases c3 : t < 2
      · simp only [if_pos c3]
        exact ⟨trivial, h2⟩
      · simp only [if_neg c3]
        refine ⟨trivial, fun k hk => ?_⟩
        by_cases e : k = t - 2
        · subst e
          rw [up2_eq, up2_eq, h2 (t - 2) (by omega), h2 (t - 1) (by omega)]
        · rw [up2_ne (.inr e), up2_ne (.inr e), h2 k (by omega)]
theorem k_rkN {u : Prop} {F G np ng len : Nat} {pg : Nat → Nat} {st : Nat} {A A' : Nat → Nat → Int32} (hF : F ≤ 8) (hG : G ≤ 8) (h : eqK u F G np ng len A A') (V : VB pg A F G len) (hU : ∀ i, i < len → gSw (pg i) = 7 → u) : ∀ j, st + j ≤ len → (rkN pg st A' j).2 = (rkN pg st A j).2 ∧ ∀ k, k < (rkN pg st A j).2 → (rkN pg st A' j).1 8 k = (rkN pg st A j).1 8 k
  | 0, _ => ⟨rfl, fun k hk => absurd hk (Nat.not_lt_zero k)⟩
  | j + 1, hj => by
    obtain ⟨h1, h2⟩ := k_rkN (st := st) hF hG h V hU j (by omega)
    have e1 : eqK u F G np ng len (rkN pg st A j).1 (rkN pg st A' j).1 := fun d k hd => by
      have : d ≠ 8 := fun z => by subst z; unfold KU at hd; omega
      rw [rkN_o this, rkN_o this, h d k hd]
    obtain ⟨v1, v2⟩ := V (st + j) (by omega)
    have key := k_rk1 (pg := pg) (i := st + j) (t := (rkN pg st A j).2) hF hG e1 h2 (by omega) (hU _ (by omega)) (fun z => by rw [rkN_o (by decide)]; exact v1 z) (fun z => by rw [rkN_o (by decide)]; exact v2 z)
    have e2 : ((rkN pg st A' j).1, (rkN pg st A j).2) = rkN pg st A' j := by rw [← h1]
    rw [e2] at key
    exact key
theorem k_rk {u : Prop} {F G np ng len : Nat} {pg : Nat → Nat} {st en : Nat} {A A' : Nat → Nat → Int32} (hF : F ≤ 8) (hG : G ≤ 8) (h : eqK u F G np ng len A A') (V : VB pg A F G len) (hU : ∀ i, i < len → gSw (pg i) = 7 → u) : rk pg A' st en len = rk pg A st en len := by
  unfold rk rkV
  by_cases c : st ≤ len
  · obtain ⟨h1, h2⟩ := k_rkN (st := st) hF hG h V hU (min en len - st) (by omega)
    rw [h1]
    by_cases z : (rkN pg st A (min en len - st)).2 = 0
    · rw [if_pos z, if_pos z]
    · rw [if_neg z, if_neg z, h2 0 (by omega)]
  · rw [show min en len - st = 0 by omega]
    rfl
/-- a fisher is kept away, or he isn't; a go lets him sail, or it doesn't -/
theorem k_go {u : Prop} {F G np ng len : Nat} {pg : Nat → Nat} {A A' : Nat → Nat → Int32} (W : WS A F G np ng) (h : eqK u F G np ng len A A') (V : VB pg A F G len) (hU : ∀ i, i < len → gSw (pg i) = 7 → u) (hP : 0 < np → u) {f i : Nat} (hf : f < F) (hi : i < ng) : goOK pg len np A' f i ↔ goOK pg len np A f i := by
  have hF : F ≤ 8 := W.2.2.2.1
  have hG : G ≤ 8 := W.2.1
  have hp6 : np ≤ 6 := W.2.2.2.2.1.2.1
  obtain ⟨-, g, hg, eg⟩ := W.2.2.2.2.2.2.1 i hi
  have sp : sparedP pg len np A' g f ↔ sparedP pg len np A g f := by
    by_cases c : 0 < np
    · have hu := hP c
      unfold sparedP
      rw [kf9 h hu hf]
      have one : ∀ q, q < np → (spares pg len A' (nI g) (nI f) q ↔ spares pg len A (nI g) (nI f) q) := fun q hq => by
        obtain ⟨n, n1, n2, n3, n4⟩ := W.2.2.2.2.2.2.2 q hq
        unfold spares
        rw [kp h hq (k := 0) (by decide) (by decide), kp h hq (k := 3) (by decide) (by decide), kp h hq (k := 1) (by decide) (by decide), kp h hq (k := 2) (by decide) (by decide), k_rk hF hG h V hU, nI_clamp (n := g) (by omega), sum5_c (f := A' (19 + 2 * g)) (h := A (19 + 2 * g)) fun s s1 s2 => ks h hg s1 s2, n3, nI_clamp (by omega)]
        have hs : hasN (A' (75 + 2 * q)) n (nI f) ↔ hasN (A (75 + 2 * q)) n (nI f) := by
          unfold hasN
          constructor
          · rintro ⟨i, i1, i2⟩
            exact ⟨i, i1, by rw [← km h hq (by omega)]; exact i2⟩
          · rintro ⟨i, i1, i2⟩
            exact ⟨i, i1, by rw [km h hq (by omega)]; exact i2⟩
        rw [hs]
      constructor
      · rintro ⟨a, q, q1, q2⟩
        exact ⟨a, q, q1, (one q q1).mp q2⟩
      · rintro ⟨a, q, q1, q2⟩
        exact ⟨a, q, q1, (one q q1).mpr q2⟩
    · constructor
      · rintro ⟨-, q, q1, -⟩; omega
      · rintro ⟨-, q, q1, -⟩; omega
  unfold goOK
  rw [ko h hi (k := 0) (by decide), ko h hi (k := 1) (by decide), ko h hi (k := 2) (by decide), ko h hi (k := 3) (by decide), k_rk hF hG h V hU, eg, nI_clamp (by omega), kg h hg (k := 0) (by decide), kg h hg (k := 1) (by decide), sp]
theorem k_fgo {u : Prop} {F G np ng len : Nat} {pg : Nat → Nat} {A A' : Nat → Nat → Int32} (W : WS A F G np ng) (h : eqK u F G np ng len A A') (V : VB pg A F G len) (hU : ∀ i, i < len → gSw (pg i) = 7 → u) (hP : 0 < np → u) {f : Nat} (hf : f < F) : ∀ d i, i + d ≤ ng → fgo pg len np A' f d i = fgo pg len np A f d i
  | 0, _, _ => rfl
  | d + 1, i, hd => by
    rw [fgo, fgo, k_fgo W h V hU hP hf d (i + 1) (by omega), ko h (show i < ng by omega) (k := 1) (by decide)]
    by_cases c : goOK pg len np A f i
    · rw [cif_t c, cif_t ((k_go W h V hU hP hf (by omega)).mpr c)]
    · rw [cif_f c, cif_f (fun z => c ((k_go W h V hU hP hf (by omega)).mp z))]
theorem hlN_c {fk fk' : Nat → Nat} {h w m : Nat} (e : ∀ s, 1 ≤ s → s ≤ 5 → fk' s = fk s) : ∀ j, j ≤ 5 → hlN fk' h w m j = hlN fk h w m j
  | 0, _ => rfl
  | j + 1, hj => by
    rw [hlN, hlN, hlN_c e j (by omega)]
    unfold hl1
    rw [e (5 - j) (by omega) (by omega)]
theorem k_sail {u : Prop} {F G np ng len : Nat} {A A' : Nat → Nat → Int32} (hG : G ≤ 8) (h : eqK u F G np ng len A A') {f g : Nat} (hf : f < F) (hg : g < G) : eqK u F G np ng len (sailA A f g) (sailA A' f g) := by
  have hh : hlA A' g f = hlA A g f := by
    unfold hlA
    rw [kf h hf (k := 3) (by decide), kf h hf (k := 2) (by decide), kf h hf (k := 1) (by decide)]
    exact hlN_c (fun s s1 s2 => by rw [ks h hg s1 s2]) 5 (Nat.le_refl _)
  have ht : eqK u F G np ng len (thereA A f g) (thereA A' f g) := by
    unfold thereA
    exact k_2 (k_2 (k_2 h rfl) rfl) (by rw [kg h hg (k := 1) (by decide)])
  have htr : eqK u F G np ng len (tornA A f g) (tornA A' f g) := by
    unfold tornA
    rw [hh]
    by_cases c : (hlA A g f).2.2.2 = 0
    · rw [if_pos c, if_pos c]; exact ht
    · rw [if_neg c, if_neg c]
      unfold tearA
      exact k_2 (k_2 ht (by rw [kf ht hf (k := 1) (by decide)])) (by rw [kf ht hf (k := 7) (by decide)])
  unfold sailA
  rw [hh, kf htr hf (k := 1) (by decide)]
  refine k_2 ?_ (by rw [kt h hf (k := g) (by omega)])
  unfold ldA
  refine k_2 (k_2 ?_ (by rw [kf htr hf (k := 8) (by decide)])) (by rw [kg htr hg (k := 2) (by decide)])
  unfold lhN
  refine k_1 (k_2 htr (by rw [kf htr hf (k := 5) (by decide)])) fun s hs => ?_
  have hs5 : 1 ≤ s ∧ s ≤ 5 := by unfold KU at hs; omega
  unfold fsN
  rw [ks htr hg hs5.1 hs5.2]
theorem k_fleet {u : Prop} {F G np ng len : Nat} {pg : Nat → Nat} {lf : Nat → Nat} {A A' : Nat → Nat → Int32} (W : WS A F G np ng) (D : WD A F G) (h : eqK u F G np ng len A A') (V : VB pg A F G len) (hU : ∀ i, i < len → gSw (pg i) = 7 → u) (hP : 0 < np → u) : ∀ n, (∀ i, i < n → lf i < F) → eqK u F G np ng len (fleetA pg len np ng lf A n) (fleetA pg len np ng lf A' n)
  | 0, _ => h
  | n + 1, hl => by
    have ih := k_fleet W D h V hU hP n fun i hi => hl i (by omega)
    obtain ⟨w1, w2⟩ := fleetA_W (pg := pg) (len := len) (lf := lf) W D n fun i hi => hl i (by omega)
    have hG : G ≤ 8 := W.2.1
    have W' := WS_c w1 W
    have V' : VB pg (fleetA pg len np ng lf A n) F G len := fun s hs => by
      have e7 : fleetA pg len np ng lf A n 7 s = A 7 s := w1 7 s (by unfold told; omega)
      rw [e7]; exact V s hs
    have hl := hl n (by omega)
    show eqK u F G np ng len (goA pg len np ng (fleetA pg len np ng lf A n) (lf n)) (goA pg len np ng (fleetA pg len np ng lf A' n) (lf n))
    unfold goA
    rw [k_fgo W' ih V' hU hP hl ng 0 (by omega)]
    rcases fgo_v (pg := pg) (len := len) (f := lf n) W' ng 0 (by omega) with c | ⟨g, hg, c⟩
    · rw [if_pos c, if_pos c]
      unfold homeA
      exact k_2 (k_2 ih rfl) rfl
    · rw [c, if_neg (nI_nm1 (by omega)), if_neg (nI_nm1 (by omega)), nI_clamp (by omega)]
      exact k_sail hG ih hl hg
theorem k_boat {u : Prop} {F G np ng len : Nat} {A A' : Nat → Nat → Int32} (h : eqK u F G np ng len A A') : ∀ n, eqK u F G np ng len (boat0 A n) (boat0 A' n)
  | 0 => h
  | n + 1 => k_2 (k_boat h n) rfl
theorem k_st {u : Prop} {F G np ng len : Nat} {A A' : Nat → Nat → Int32} (h : eqK u F G np ng len A A') : ∀ n, n ≤ F → eqK u F G np ng len (stA A n) (stA A' n)
  | 0, _ => h
  | n + 1, hn => k_2 (k_st h n (by omega)) (by rw [kf h (show n < F by omega) (k := 4) (by decide), kf h (show n < F by omega) (k := 5) (by decide)])
theorem gr1_c {f h : Nat → Int32} {j : Nat} (e : ∀ s, 1 ≤ s → s ≤ 5 → f s = h s) (h1 : 1 ≤ j) (h2 : j ≤ 4) : ∀ s, 1 ≤ s → s ≤ 5 → gr1 f j s = gr1 h j s := fun s s1 s2 => by
  unfold gr1
  rw [e j h1 (by omega), e (j + 1) (by omega) (by omega)]
  by_cases c1 : s = j + 1
  · subst c1; rw [up1_e, up1_e]
  · rw [up1_o c1, up1_o c1]
    by_cases c2 : s = j
    · subst c2; rw [up1_e, up1_e]
    · rw [up1_o c2, up1_o c2]; exact e s s1 s2
theorem gro_c {f h : Nat → Int32} (e : ∀ s, 1 ≤ s → s ≤ 5 → f s = h s) : ∀ s, 1 ≤ s → s ≤ 5 → gro f s = gro h s := by
  have r1 := gr1_c (j := 4) e (by decide) (by decide)
  have r2 := gr1_c (j := 3) r1 (by decide) (by decide)
  have r3 := gr1_c (j := 2) r2 (by decide) (by decide)
  have r4 : ∀ s, 1 ≤ s → s ≤ 5 → grN f 4 s = grN h 4 s := gr1_c (j := 1) r3 (by decide) (by decide)
  intro s s1 s2
  unfold gro
  rw [sum5_c r4, r4 1 (by decide) (by decide)]
  by_cases c : s = 1
  · subst c; rw [up1_e, up1_e]
  · rw [up1_o c, up1_o c]; exact r4 s s1 s2
theorem k_grow {u : Prop} {F G np ng len : Nat} {A A' : Nat → Nat → Int32} (hG : G ≤ 8) (h : eqK u F G np ng len A A') : ∀ n, n ≤ G → eqK u F G np ng len (growA A n) (growA A' n)
  | 0, _ => h
  | n + 1, hn => k_1 (k_grow hG h n (by omega)) fun k hk => by
    have hs5 : 1 ≤ k ∧ k ≤ 5 := by unfold KU at hk; omega
    exact gro_c (fun s s1 s2 => ks h (by omega) s1 s2) k hs5.1 hs5.2
/-- pacts -/
theorem k_spN {u : Prop} {F G np ng len p n : Nat} {A A' : Nat → Nat → Int32} (hF : F ≤ 8) (h : eqK u F G np ng len A A') (hu : u) (hp : p < np) (hm : ∀ i, i < n → ∃ f, f < F ∧ A (75 + 2 * p) i = nI f) (n8 : n ≤ 8) : ∀ i, i ≤ n → eqK u F G np ng len (spN A p i).1 (spN A' p i).1 ∧ (spN A' p i).2 = (spN A p i).2
  | 0, _ => ⟨h, rfl⟩
  | i + 1, hi => by
    obtain ⟨h1, h2⟩ := k_spN hF h hu hp hm n8 i (by omega)
    obtain ⟨f, hf, ef⟩ := hm i (by omega)
    have hP : okP A p i := fun j hj => by obtain ⟨f, hf, e⟩ := hm j (by omega); exact ⟨f, by omega, e⟩
    have em : memA (spN A p i).1 p i = f := by
      unfold memA
      rw [spN_o i (fun f' hf' => by omega) hP, ef, nI_clamp (by omega)]
    have em' : memA (spN A' p i).1 p i = f := by
      unfold memA at em ⊢
      rw [km h1 hp (by omega)]; exact em
    have es : shwA (spN A' p i).1 f = shwA (spN A p i).1 f := by
      unfold shwA
      rw [kf9 h1 hu hf, kf h1 hf (k := 5) (by decide)]
    show eqK u F G np ng len (sp1 p i (spN A p i)).1 (sp1 p i (spN A' p i)).1 ∧ (sp1 p i (spN A' p i)).2 = (sp1 p i (spN A p i)).2
    unfold sp1
    rw [em, em', es, kf h1 hf (k := 5) (by decide), h2]
    exact ⟨k_2 h1 rfl, rfl⟩
theorem k_shN {u : Prop} {F G np ng len p n : Nat} {A A' : Nat → Nat → Int32} {v : Int32} (hF : F ≤ 8) (h : eqK u F G np ng len A A') (hp : p < np) (hm : ∀ i, i < n → ∃ f, f < F ∧ A (75 + 2 * p) i = nI f) (n8 : n ≤ 8) : ∀ i, i ≤ n → eqK u F G np ng len (shN A p v i) (shN A' p v i)
  | 0, _ => h
  | i + 1, hi => by
    have h1 := k_shN (v := v) hF h hp hm n8 i (by omega)
    obtain ⟨f, hf, ef⟩ := hm i (by omega)
    have hP : okP A p i := fun j hj => by obtain ⟨f, hf, e⟩ := hm j (by omega); exact ⟨f, by omega, e⟩
    have em : memA (shN A p v i) p i = f := by
      unfold memA
      rw [shN_o i (fun f' hf' => by omega) hP, ef, nI_clamp (by omega)]
    have em' : memA (shN A' p v i) p i = f := by
      unfold memA at em ⊢
      rw [km h1 hp (by omega)]; exact em
    show eqK u F G np ng len (add5 (shN A p v i) (memA (shN A p v i) p i) v) (add5 (shN A' p v i) (memA (shN A' p v i) p i) v)
    rw [em, em']
    unfold add5
    exact k_2 h1 (by rw [kf h1 hf (k := 5) (by decide)])
theorem k_spl {u : Prop} {F G np ng len p n : Nat} {A A' : Nat → Nat → Int32} (hF : F ≤ 8) (h : eqK u F G np ng len A A') (hu : u) (hp : p < np) (n1 : 1 ≤ n) (n8 : n ≤ 8) (hm : ∀ i, i < n → ∃ f, f < F ∧ A (75 + 2 * p) i = nI f) : eqK u F G np ng len (splA A p n) (splA A' p n) := by
  obtain ⟨h1, h2⟩ := k_spN hF h hu hp hm n8 n (Nat.le_refl _)
  have hP : okP A p n := fun j hj => by obtain ⟨f, hf, e⟩ := hm j hj; exact ⟨f, by omega, e⟩
  have h3 := k_shN (v := (spN A p n).2.1 / nI n) hF h1 hp (fun i hi => by rw [spN_o n (fun f' hf' => by omega) hP]; exact hm i hi) n8 n (Nat.le_refl _)
  obtain ⟨f, hf, ef⟩ := hm 0 (by omega)
  have em : memA A p 0 = f := by unfold memA; rw [ef, nI_clamp (by omega)]
  have em' : memA A' p 0 = f := by
    unfold memA
    rw [km h hp (by omega), ef, nI_clamp (by omega)]
  unfold splA
  rw [em, em', h2, kp h hp (k := 5) (by decide) (by decide), kp h hp (k := 6) (by decide) (by decide), kp h hp (k := 7) (by decide) (by decide)]
  refine k_2 (k_2 (k_2 ?_ rfl) rfl) rfl
  unfold add5
  exact k_2 h3 (by rw [kf h3 hf (k := 5) (by decide)])
theorem k_splits {u : Prop} {F G np ng len : Nat} {A A' : Nat → Nat → Int32} (W : WS A F G np ng) (D : WD A F G) (h : eqK u F G np ng len A A') (hP : 0 < np → u) : ∀ n, n ≤ np → eqK u F G np ng len (splitsA A n) (splitsA A' n)
  | 0, _ => h
  | n + 1, hn => by
    have ih := k_splits W D h hP n (by omega)
    obtain ⟨w1, w2⟩ := splitsA_W W D n (by omega)
    have W' := WS_c w1 W
    have hF : F ≤ 8 := W.2.2.2.1
    obtain ⟨k, k1, k2, k3, k4⟩ := W'.2.2.2.2.2.2.2 n (by omega)
    rw [splitsA, splitsA, kp ih (show n < np by omega) (k := 0) (by decide) (by decide), kp ih (show n < np by omega) (k := 3) (by decide) (by decide)]
    by_cases c : 0 ≤ splitsA A n (74 + 2 * n) 0
    · rw [if_pos c, if_pos c]; exact ih
    · rw [if_neg c, if_neg c, k3, nI_clamp (by omega)]
      exact k_spl hF ih (hP (by omega)) (by omega) k1 k2 k4
theorem k_tide {u : Prop} {F G np ng len : Nat} {pg : Nat → Nat} {A A' : Nat → Nat → Int32} (W : WS A F G np ng) (D : WD A F G) (h : eqK u F G np ng len A A') (V : VB pg A F G len) (hU : ∀ i, i < len → gSw (pg i) = 7 → u) (hP : 0 < np → u) : eqK u F G np ng len (tideA pg len np ng F G A) (tideA pg len np ng F G A') := by
  have hF : F ≤ 8 := W.2.2.2.1
  have hG : G ≤ 8 := W.2.1
  have t0 : eqT A (up2 A 0 1 (lkA F (A 0 1))) := eqT_2 (by unfold told; omega)
  have W0 := WS_c t0 W
  have D0 : WD (up2 A 0 1 (lkA F (A 0 1))) F G := by
    refine ⟨fun g hg s s1 s2 => ?_, fun f hf => ?_⟩
    · rw [up2_ne (.inl (by omega))]; exact D.1 g hg s s1 s2
    · have d2 := D.2 f hf
      unfold okF at d2 ⊢
      rw [up2_d (by omega)]; exact d2
  obtain ⟨b1, b2⟩ := boat0_W hF hG D0
  have W1 := WS_c b1 W0
  have lt : ∀ i, i < F → ltA F (A 0 1) i < F := fun i hi => ltA_lt (by omega) hi
  have V1 : VB pg (boat0 (up2 A 0 1 (lkA F (A 0 1))) G) F G len := fun s hs => by
    have e7 : boat0 (up2 A 0 1 (lkA F (A 0 1))) G 7 s = A 7 s := by rw [boat0_o (.inl (by decide)), up2_ne (.inl (by decide))]
    rw [e7]; exact V s hs
  obtain ⟨w1, w2⟩ := fleetA_W (pg := pg) (len := len) (lf := ltA F (A 0 1)) W1 b2 F lt
  have e1 : A' 0 1 = A 0 1 := k0 h (by decide)
  have f1 : eqK u F G np ng len (fleetA pg len np ng (ltA F (A 0 1)) (boat0 (up2 A 0 1 (lkA F (A 0 1))) G) F) (fleetA pg len np ng (ltA F (A' 0 1)) (boat0 (up2 A' 0 1 (lkA F (A' 0 1))) G) F) := by
    rw [e1]
    exact k_fleet W1 b2 (k_boat (k_2 h rfl) G) V1 hU hP F lt
  unfold tideA
  refine k_2 (k_grow hG (k_st ?_ F (Nat.le_refl _)) G (Nat.le_refl _)) (by rw [k0 h (by decide)])
  unfold tideP
  exact k_splits (WS_c w1 W1) w2 f1 hP np (Nat.le_refl _)
theorem k_tides {u : Prop} {F G np ng len : Nat} {pg : Nat → Nat} {A A' : Nat → Nat → Int32} (W : WS A F G np ng) (D : WD A F G) (h : eqK u F G np ng len A A') (V : VB pg A F G len) (hU : ∀ i, i < len → gSw (pg i) = 7 → u) (hP : 0 < np → u) : ∀ n, eqK u F G np ng len (tidesA pg len np ng F G A n) (tidesA pg len np ng F G A' n)
  | 0 => h
  | n + 1 => by
    obtain ⟨w1, w2⟩ := tides_W (pg := pg) (len := len) W D n
    exact k_tide (WS_c w1 W) w2 (k_tides W D h V hU hP n) (fun s hs => by
      have e7 : tidesA pg len np ng F G A n 7 s = A 7 s := w1 7 s (by unfold told; omega)
      rw [e7]; exact V s hs) hU hP
/-- a copy is as good -/
theorem k_cpy {F G np ng len : Nat} {A A1 : Nat → Nat → Int32} (C : CPY A A1 F G np ng len) : eqK True F G np ng len A A1 := fun d k h => by
  obtain ⟨c0, c5, c7, cg, cs, cf, ct, co, cp, cm⟩ := C
  rcases h with ⟨rfl, h⟩ | ⟨rfl, h⟩ | ⟨h1, h2, ⟨h3, h4⟩ | ⟨h3, h4, h5⟩⟩ | ⟨h1, h2, ⟨h3, h4, -⟩ | ⟨h3, h4⟩⟩ | ⟨h1, h2, h3⟩ | ⟨h1, h2, h3, h4⟩
  · exact c0 k h
  · exact c7 k h
  · have := cg ((d - 18) / 2) k (by omega) h4
    rwa [show 18 + 2 * ((d - 18) / 2) = d by omega] at this
  · have := cs ((d - 19) / 2) k (by omega) h4 h5
    rwa [show 19 + 2 * ((d - 19) / 2) = d by omega] at this
  · have := cf ((d - 34) / 2) k (by omega) h4
    rwa [show 34 + 2 * ((d - 34) / 2) = d by omega] at this
  · have := ct ((d - 35) / 2) k (by omega) h4
    rwa [show 35 + 2 * ((d - 35) / 2) = d by omega] at this
  · have := co (d - 50) k (by omega) h3
    rwa [show 50 + (d - 50) = d by omega] at this
  · by_cases e : d % 2 = 0
    · have := cp ((d - 74) / 2) k (by omega) h3 (h4 e)
      rwa [show 74 + 2 * ((d - 74) / 2) = d by omega] at this
    · have := cm ((d - 75) / 2) k (by omega) h3
      rwa [show 75 + 2 * ((d - 75) / 2) = d by omega] at this
theorem k_nz {u : Prop} {F G np ng len : Nat} {A A' : Nat → Nat → Int32} (h : eqK u F G np ng len A A') : eqK u F G np ng len (nz A) (nz A') := fun d k hd => by
  have : d < 8 ∨ 11 < d := by unfold KU at hd; omega
  rw [nz_e this, nz_e this]; exact h d k hd
theorem k_lo {u : Prop} {F G np ng len : Nat} {A A' : Nat → Nat → Int32} (h : eqK True F G np ng len A A') : eqK u F G np ng len A A' := fun d k hd => h d k (by
  rcases hd with z | z | z | ⟨h1, h2, ⟨h3, h4, -⟩ | h3⟩ | z | z
  · exact .inl z
  · exact .inr (.inl z)
  · exact .inr (.inr (.inl z))
  · exact .inr (.inr (.inr (.inl ⟨h1, h2, .inl ⟨h3, h4, fun _ => trivial⟩⟩)))
  · exact .inr (.inr (.inr (.inl ⟨h1, h2, .inr h3⟩)))
  · exact .inr (.inr (.inr (.inr (.inl z))))
  · exact .inr (.inr (.inr (.inr (.inr z)))))
theorem minN_c {f h : Nat → Int32} : ∀ n, (∀ i, i ≤ n → f i = h i) → minN f n = minN h n ∧ maxN f n = maxN h n
  | 0, e => ⟨e 0 (Nat.le_refl _), e 0 (Nat.le_refl _)⟩
  | n + 1, e => by
    obtain ⟨a, b⟩ := minN_c n fun i hi => e i (by omega)
    exact ⟨by rw [minN, minN, a, e (n + 1) (Nat.le_refl _)], by rw [maxN, maxN, b, e (n + 1) (Nat.le_refl _)]⟩
theorem k_frV {u : Prop} {F G np ng len c : Nat} {A A' : Nat → Nat → Int32} (h : eqK u F G np ng len A A') : frV A' F G c = frV A F G c := by
  unfold frV
  have e4 : ∀ i, i < F → A' (34 + 2 * i) 4 = A (34 + 2 * i) 4 := fun i hi => kf h hi (by decide)
  rw [sumN_c (f := fun i => A' (34 + 2 * i) 4) (h := fun i => A (34 + 2 * i) 4) F e4, sumN_c (f := fun i => sum5 (A' (19 + 2 * i)) 5) (h := fun i => sum5 (A (19 + 2 * i)) 5) G (fun i hi => sum5_c fun s s1 s2 => ks h hi s1 s2)]
  have eg : gapV A' F = gapV A F := by
    cases F with
    | zero => rfl
    | succ n =>
      obtain ⟨a, b⟩ := minN_c (f := fun i => A' (34 + 2 * i) 4) (h := fun i => A (34 + 2 * i) 4) n fun i hi => e4 i (by omega)
      show maxN (fun i => A' (34 + 2 * i) 4) n - minN (fun i => A' (34 + 2 * i) 4) n = maxN (fun i => A (34 + 2 * i) 4) n - minN (fun i => A (34 + 2 * i) 4) n
      rw [a, b]
  rw [eg]
theorem gSw_7 : ∀ c, c < 45 → (gSw c = 7 ↔ c = 19) := by decide +kernel
