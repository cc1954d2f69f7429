/-! ## Pure: the reference's second pass: what it looks up -/
def PB (m t : Nat) (M : gMem) : Prop := MB m t M ∧ mR M m 8 = some (m + 6) ∧ mT M (m + 6) = 20 ∧ mL M (m + 6) = 401
def M2I (m t : Nat) (M0 M : gMem) : Prop :=
  (mT M = mT M0 ∧ mL M = mL M0 ∧ mN M = mN M0 ∧ mR M = mR M0 ∧ mJ M = mJ M0) ∧ (∀ a, a ≠ m → a ≠ m + 6 → (a < t ∨ t + 11 ≤ a) → mI M a = mI M0 a) ∧ (∀ j, mI M m j = mI M0 m j) ∧ ∀ j, j ≠ 0 → j ≠ 3 → j ≠ 4 → j ≠ 8 → j ≠ 11 → mI M t j = mI M0 t j
theorem M2_B {m t : Nat} {M0 M : gMem} (B : PB m t M0) (C : M2I m t M0 M) : PB m t M := by
  obtain ⟨⟨h1, h2, -, h4, -⟩, -⟩ := C
  unfold PB MB
  rw [h1, h2, h4]
  exact B
theorem M2_w {m t a j : Nat} {v : Int32} {M0 M : gMem} (ht : m + 7 ≤ t) (C : M2I m t M0 M) (h : (a = m ∧ 1 = 0) ∨ a = m + 6 ∨ (t < a ∧ a < t + 11) ∨ (a = t ∧ (j = 0 ∨ j = 3 ∨ j = 4 ∨ j = 8 ∨ j = 11))) : M2I m t M0 (wI M a j v) := by
  obtain ⟨h1, h2, h3, h4⟩ := C
  refine ⟨h1, fun b b1 b2 b3 => ?_, fun i => ?_, fun i i1 i2 i3 i4 i5 => ?_⟩
  · rw [← h2 b b1 b2 b3]
    funext i
    exact up2_ne (.inl (by omega))
  · rw [← h3 i]
    exact up2_ne (by omega)
  · rw [← h4 i i1 i2 i3 i4 i5]
    exact up2_ne (by omega)
/-- the world of the second pass: roles, numbers, names -/
def P2W (g vs ro : Nat → Nat) (K m t : Nat) (M0 : gMem) : Prop :=
  PB m t M0 ∧ (∀ i, i ≤ K → mI M0 (m + 5) i = nI (ro i) ∧ ro i ≤ 15) ∧ K ≤ 400 ∧
  (∀ i, i ≤ K → 1 ≤ ro i → ro i ≠ 4 → g i = if 5 ≤ ro i ∧ ro i ≤ 9 then 41 else 40) ∧
  (∀ X i, M2I m t M0 X → i ≤ K → g i = 41 → f_X14_numberAt X m (nI i) = some (nI (vs i), X)) ∧
  (∀ i, i ≤ K → g i = 41 → vs i < 1000000) ∧
  ∀ X i j, M2I m t M0 X → i ≤ K → j ≤ K → g i = 40 → g j = 40 → f_X14_isSame X m (nI i) (nI j) = some (if vs i = vs j then (1 : Int32) else 0, X)
/-- the search through the tokens i, i + 1, .. of d -/
def tdS (ro vs : Nat → Nat) (w v : Nat) : Nat → Nat → Nat → Option Nat
  | 0, _, _ => none
  | d + 1, c, i => if ro i = w then (if vs i = v then some c else tdS ro vs w v d (c + 1) (i + 1)) else tdS ro vs w v d c (i + 1)
theorem tdS_lt {ro vs : Nat → Nat} {w v : Nat} : ∀ {d c i k : Nat}, tdS ro vs w v d c i = some k → k < c + d
  | 0, _, _, _, h => by cases h
  | d + 1, c, i, k, h => by
    rw [tdS] at h
    by_cases e : ro i = w
    · rw [if_pos e] at h
      by_cases e2 : vs i = v
      · rw [if_pos e2] at h; cases h; omega
      · rw [if_neg e2] at h; have := tdS_lt h; omega
    · rw [if_neg e] at h; have := tdS_lt h; omega
def tdV (x : Option Nat) : Int32 := match x with | some c => nI c | none => -1
theorem P2_ro {g vs ro : Nat → Nat} {K m t : Nat} {M0 : gMem} (W : P2W g vs ro K m t M0) {i : Nat} {M : gMem} (C : M2I m t M0 M) (hi : i ≤ K) : mI M (m + 5) i = nI (ro i) := by
  have ht := W.1.1.2.2
  rw [C.2.1 (m + 5) (by omega) (by omega) (by omega)]
  exact (W.2.1 i hi).1
theorem M_told {g vs ro : Nat → Nat} {K m t : Nat} {M0 : gMem} (W : P2W g vs ro K m t M0) {x w : Nat} {M : gMem} (C : M2I m t M0 M) (hx : x ≤ K) (hg : g x = 40) (hw : 1 ≤ w ∧ w ≤ 3) : f_X14_told M m (nI x) (nI w) = some (tdV (tdS ro vs w (vs x) x 0 0), M) := by
  obtain ⟨⟨⟨t0, -, r7, -, -, -, t5, l5⟩, -, ht⟩, -⟩ := M2_B W.1 C
  have hK := W.2.2.1
  have key : ∀ d c i, i + d = x → c ≤ i → lp_X14_told_5 M m (nI x) (nI w) (nI c) (nI i) = some (tdV (tdS ro vs w (vs x) d c i), M) := by
    intro d
    induction d with
    | zero =>
      intro c i hi hc
      refine lp_out (b := ((-1 : Int32), M)) ?_
      show bb_X14_told_5 M m (nI x) (nI w) (nI c) (nI i) = _
      unfold bb_X14_told_5
      rw [if_pos (nI_le (by omega) (by omega))]
      rfl
    | succ d ih =>
      intro c i hi hc
      have q1 : ¬ nI x ≤ nI i := fun z => by have := (nI_leI (by omega) (by omega)).mp z; omega
      have q2 : inb (nI i) 401 := (inbN (by omega)).mpr (by omega)
      have hb : bb_X14_told_5 M m (nI x) (nI w) (nI c) (nI i) = if ro i = w then (if vs i = vs x then some (.inr (nI c, M)) else some (.inl (M, nI (c + 1), nI (i + 1)))) else some (.inl (M, nI c, nI (i + 1))) := by
        unfold bb_X14_told_5 b_X14_told_40
        rw [if_neg q1, ck_t t0, dr_s r7, ck_t t5, l5, ck_t q2, nI_clamp (by omega), P2_ro W C (by omega)]
        by_cases e : ro i = w
        · have g40 : g i = 40 := by
            rw [W.2.2.2.1 i (by omega) (by omega) (by omega), if_neg (by omega)]
          rw [if_pos (show nI (ro i) = nI w by rw [e]), if_pos e, W.2.2.2.2.2.2 M i x C (by omega) hx g40 hg, bd_S]
          by_cases e2 : vs i = vs x
          · rw [if_pos e2, if_pos e2, if_neg (by decide)]; rfl
          · rw [if_neg e2, if_neg e2, if_pos rfl, nI_1, nI_1]
        · rw [if_neg (nI_ne e (by have := (W.2.1 i (by omega)).2; omega) (by omega)), if_neg e, nI_1]
      rw [tdS]
      by_cases e : ro i = w
      · rw [if_pos e] at hb ⊢
        by_cases e2 : vs i = vs x
        · rw [if_pos e2] at hb ⊢
          exact lp_out hb
        · rw [if_neg e2] at hb ⊢
          have e1 : lp_X14_told_5 M m (nI x) (nI w) (nI c) (nI i) = lp_X14_told_5 M m (nI x) (nI w) (nI (c + 1)) (nI (i + 1)) := lp_in hb
          rw [e1]
          exact ih (c + 1) (i + 1) (by omega) (by omega)
      · rw [if_neg e] at hb ⊢
        have e1 : lp_X14_told_5 M m (nI x) (nI w) (nI c) (nI i) = lp_X14_told_5 M m (nI x) (nI w) (nI c) (nI (i + 1)) := lp_in hb
        rw [e1]
        exact ih c (i + 1) (by omega) (by omega)
  unfold f_X14_told b_X14_told_0
  exact key x 0 0 (by omega) (Nat.le_refl _)
/-- what was found is kept -/
theorem M_look {g vs ro : Nat → Nat} {K m t : Nat} {M0 : gMem} (W : P2W g vs ro K m t M0) {x w : Nat} {M : gMem} (C : M2I m t M0 M) (hx : x ≤ K) (hg : g x = 40) (hw : 1 ≤ w ∧ w ≤ 3) : f_X14_look M m (nI x) (nI w) = some (if tdS ro vs w (vs x) x 0 0 = none then (3 : Int32) else 0, wI M (m + 6) x (tdV (tdS ro vs w (vs x) x 0 0))) ∧ M2I m t M0 (wI M (m + 6) x (tdV (tdS ro vs w (vs x) x 0 0))) := by
  obtain ⟨⟨⟨t0, -⟩, -, ht⟩, r8, t6, l6⟩ := M2_B W.1 C
  have hK := W.2.2.1
  have q : inb (nI x) 401 := (inbN (by omega)).mpr (by omega)
  refine ⟨?_, M2_w ht C (.inr (.inl rfl))⟩
  unfold f_X14_look b_X14_look_0 b_X14_look_27
  have hcl : (nI x).toNatClampNeg = x := nI_clamp (by omega)
  rw [ck_t t0, M_told W C hx hg hw, bd_S, dr_s r8, ck_t t6, l6, ck_t q, lw_S, ck_t (show mT (wI M (m + 6) (nI x).toNatClampNeg (tdV (tdS ro vs w (vs x) x 0 0))) m = 13 from t0), show mR (wI M (m + 6) (nI x).toNatClampNeg (tdV (tdS ro vs w (vs x) x 0 0))) m 8 = some (m + 6) from r8, dr_S, ck_t (show mT (wI M (m + 6) (nI x).toNatClampNeg (tdV (tdS ro vs w (vs x) x 0 0))) (m + 6) = 20 from t6), show mL (wI M (m + 6) (nI x).toNatClampNeg (tdV (tdS ro vs w (vs x) x 0 0))) (m + 6) = 401 from l6, ck_t q, wI_e, hcl]
  cases h : tdS ro vs w (vs x) x 0 0 with
  | none => rw [if_pos (show tdV none = (-1 : Int32) from rfl), if_pos rfl]
  | some k =>
    have := tdS_lt h
    rw [if_neg (show ¬ tdV (some k) = (-1 : Int32) from fun z => nI_nm1 (by omega) z), if_neg (by intro z; cases z)]
theorem M_isIn {M : gMem} {v lo hi : Nat} (hv : v < 2 ^ 30) (hl : lo < 2 ^ 30) (hh : hi < 2 ^ 30) : f_X14_isIn M (nI v) (nI lo) (nI hi) = some (if lo ≤ v ∧ v ≤ hi then (1 : Int32) else 0, M) := by
  unfold f_X14_isIn b_X14_isIn_0 b_X14_isIn_14 b_X14_isIn_15
  by_cases c : v < lo
  · rw [if_pos (nI_lt c (by omega)), if_neg (by omega), ck_t (.inl rfl)]
  · rw [if_neg (fun z => c ((nI_ltI (by omega) (by omega)).mp z))]
    by_cases c2 : hi < v
    · rw [if_pos (nI_lt c2 (by omega)), if_neg (by omega), ck_t (.inl rfl)]
    · rw [if_neg (fun z => c2 ((nI_ltI (by omega) (by omega)).mp z)), if_pos (by omega), ck_t (.inr rfl)]
theorem M_range {g vs ro : Nat → Nat} {K m t : Nat} {M0 : gMem} (W : P2W g vs ro K m t M0) {x lo hi : Nat} {M : gMem} (C : M2I m t M0 M) (hx : x ≤ K) (hg : g x = 41) (hl : lo < 2 ^ 30) (hh : hi < 2 ^ 30) : f_X14_inRange M m (nI x) (nI lo) (nI hi) = some (if lo ≤ vs x ∧ vs x ≤ hi then (0 : Int32) else 5, M) := by
  have t0 := (M2_B W.1 C).1.1.1
  have hv := W.2.2.2.2.2.1 x hx hg
  unfold f_X14_inRange b_X14_inRange_0 b_X14_inRange_18
  rw [ck_t t0, W.2.2.2.2.1 M x C hx hg, bd_S, M_isIn (by omega) hl hh, bd_S]
  by_cases c : lo ≤ vs x ∧ vs x ≤ hi
  · rw [if_pos c, if_pos c, if_neg (by decide)]
  · rw [if_neg c, if_neg c, if_pos rfl]
