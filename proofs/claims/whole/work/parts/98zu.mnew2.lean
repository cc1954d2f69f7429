/-! ## Pure: the reference is made, whole -/
theorem moL_2 : ∀ j, j < 5 → (moL.getD j (0, 0)).1 = 401 ∧ (moL.getD j (0, 0)).2 = j + 4 := by decide
theorem moL_5 {j : Nat} (h : j < moL.length) : moL[j] = moL.getD j (0, 0) := by simp [List.getD, h]
def bgI (j : Nat) : Nat := [0, 0, 0, 1, 0, 2, 3, 0, 4, 5, 6, 7, 8].getD j 0
theorem bgI_1 : ∀ j, j < 13 → 2 ≤ j → j ≠ 7 → j ≠ 4 → bgI j < 9 ∧ bgR (bgI j) = j := by decide
theorem bd_un {x : Option (Unit × gMem)} {S : gMem} (h : bd x (fun _ M => some ((), M)) = some ((), S)) : x = some ((), S) := by
  match x, h with
  | some ((), M), h => exact h
theorem X14_new {M : gMem} {m : Nat} (e : mN M = m) : ∃ X, f_X14_init (nW M 13 0) m = some ((), X) ∧ mN X = m + 59 ∧ (∀ a, a < m → mT X a = mT M a ∧ mL X a = mL M a ∧ mR X a = mR M a ∧ mI X a = mI M a) ∧ (∀ T, MIv m (m + 7) 0 T X) ∧ mI X m 3 = -1 ∧ (∀ j k, j < 17 → mI X (m + 7 + j) k = 0) ∧ mI X (m + 24) 0 = 0 ∧ mI X (m + 24) 1 = 1 ∧ (∀ j k, 1 ≤ j → j < 13 → j ≠ 7 → k < lenS j → mI X (m + 24 + j) k = 0) ∧ ∀ k, k < 8 → mI X (m + 24 + 7) k = -1 := by
  -- m itself and its first rows
  obtain ⟨S0, hS0⟩ : ∃ S0, S0 = nW M 13 0 := ⟨_, rfl⟩
  have n0 : mN S0 = m + 1 := by rw [hS0, ← e]; rfl
  have t0 : mT S0 m = 13 := by rw [hS0, ← e]; exact if_pos rfl
  have i0 : ∀ k, mI S0 m k = 0 := fun k => by
    rw [hS0, ← e]
    show up1 (mI M) (mN M) (fun _ => 0) (mN M) k = 0
    rw [up1_e]
  have u0 : upN m m M S0 := by rw [hS0]; exact upN_n (by omega)
  obtain ⟨S1, hS1⟩ : ∃ S1, S1 = wI (al m 2000 1 S0) m 3 (-1) := ⟨_, rfl⟩
  have n1 : mN S1 = m + 2 := by rw [hS1]; show mN S0 + 1 = _; omega
  have t1 : mT S1 m = 13 := by rw [hS1]; exact (al_okg (n := 2000) (k := 1) ⟨t0, by omega⟩).1
  have t1' : mT S1 (m + 1) = 20 ∧ mL S1 (m + 1) = 2000 := by
    rw [hS1, ← n0]
    exact ⟨if_pos rfl, if_pos rfl⟩
  have r1 : mR S1 m 1 = some (m + 1) := by
    rw [hS1, ← n0]
    exact if_pos ⟨rfl, rfl⟩
  have i1 : ∀ k, mI S1 m k = if k = 3 then -1 else 0 := fun k => by
    rw [hS1]
    by_cases q : k = 3
    · rw [if_pos q, q]; exact wI_e _ _ _ _
    · rw [if_neg q]
      refine (wI_o (.inr q)).trans ?_
      show up1 (mI S0) (mN S0) (fun _ => 0) m k = 0
      rw [up1_o (by omega)]
      exact i0 k
  have u1 : upN m m S0 S1 := by rw [hS1]; exact upN_t (upN_n (by omega)) (upN_t (upN_R (.inl rfl)) (upN_I (.inl rfl)))
  obtain ⟨S2, hS2⟩ : ∃ S2, S2 = alL m moL S1 := ⟨_, rfl⟩
  obtain ⟨l1, l2, l3, l4, l5⟩ := alL_f moL S1 (x := m) (by omega)
  rw [← hS2] at l1 l2 l3 l4 l5
  have len : moL.length = 5 := by decide
  have n2 : mN S2 = m + 7 := by rw [l1, n1, len]
  have t2 : mT S2 m = 13 := by rw [(l2 m (by omega)).1]; exact t1
  have u2 : upN m m S1 S2 := by rw [hS2]; exact upN_L moL (by omega) (by omega) (.inl rfl)
  have r2 : mR S2 m 1 = some (m + 1) := by rw [l4 1 (by decide)]; exact r1
  have dist : ∀ (a c : Nat) (ha : a < moL.length) (hc : c < moL.length), (moL[a]).2 = (moL[c]).2 → a = c := fun a c ha hc e => by
    rw [moL_5 ha, moL_5 hc, (moL_2 a (by omega)).2, (moL_2 c (by omega)).2] at e
    omega
  have r2' : ∀ j, j < 5 → mT S2 (m + 2 + j) = 20 ∧ mL S2 (m + 2 + j) = 401 ∧ mR S2 m (j + 4) = some (m + 2 + j) := fun j hj => by
    obtain ⟨a1, a2, -⟩ := l3 j (by omega)
    rw [n1] at a1 a2
    have a3 := l5 dist j (by omega)
    rw [n1] at a3
    obtain ⟨q1, q2⟩ := moL_2 j hj
    rw [moL_5 (by omega), q1] at a2
    rw [moL_5 (by omega), q2] at a3
    exact ⟨a1, a2, a3⟩
  have i2 : ∀ k, mI S2 m k = if k = 3 then -1 else 0 := fun k => by rw [(l2 m (by omega)).2.2.1]; exact i1 k
  -- told
  obtain ⟨S4, k1, n4, k3, k4, k5, k6, k7⟩ := new_told (M := S2)
  rw [n2] at n4 k3 k4 k5 k6 k7
  have r4 : mR S4 m = mR S2 m := (k3 m (by omega)).2.2.2.2
  obtain ⟨S5, hS5⟩ : ∃ S5, S5 = wR (wR S4 m 11 (some (m + 7))) m 12 (some (m + 7)) := ⟨_, rfl⟩
  have n5 : mN S5 = m + 24 := by rw [hS5]; show mN S4 = _; omega
  -- the first State
  obtain ⟨S7, s1, n7, u7, s3, s4, s5, s6, s7⟩ := X12_new (M := S5) (x := m + 24) (m := m) n5 (by omega)
  have x7 := upN_x u7 (Nat.le_refl _)
  obtain ⟨S8, hS8⟩ : ∃ S8, S8 = wR S7 m 13 (some (m + 24)) := ⟨_, rfl⟩
  have n8 : mN S8 = m + 41 := by rw [hS8]; show mN S7 = _; omega
  obtain ⟨S10, q1, n10, u10, q3, q4, q5, q6, q7⟩ := X12_new (M := S8) (x := m + 41) (m := m) n8 (by omega)
  have x10 := upN_x u10 (Nat.le_refl _)
  obtain ⟨S11, hS11⟩ : ∃ S11, S11 = wR S10 m 14 (some (m + 41)) := ⟨_, rfl⟩
  have n11 : mN S11 = m + 58 := by rw [hS11]; show mN S10 = _; omega
  -- what stands in the end
  have g10 : ∀ a, a ≠ m → a < m + 58 → mT S11 a = mT S10 a ∧ mL S11 a = mL S10 a ∧ mR S11 a = mR S10 a ∧ mI S11 a = mI S10 a := fun a h _ => by
    rw [hS11]
    exact ⟨rfl, rfl, by funext k; exact wR_n (.inl h), rfl⟩
  have g7 : ∀ a, a ≠ m → a < m + 41 → mT S11 a = mT S7 a ∧ mL S11 a = mL S7 a ∧ mR S11 a = mR S7 a ∧ mI S11 a = mI S7 a := fun a h h2 => by
    obtain ⟨y1, y2, y3, y4⟩ := g10 a h (by omega)
    obtain ⟨z1, z2, z3, z4⟩ := x10 a (by omega)
    have w : mT S8 a = mT S7 a ∧ mL S8 a = mL S7 a ∧ mR S8 a = mR S7 a ∧ mI S8 a = mI S7 a := by
      rw [hS8]
      exact ⟨rfl, rfl, by funext k; exact wR_n (.inl h), rfl⟩
    exact ⟨y1.trans (z1.trans w.1), y2.trans (z2.trans w.2.1), y3.trans (z3.trans w.2.2.1), y4.trans (z4.trans w.2.2.2)⟩
  have g4 : ∀ a, a ≠ m → a < m + 24 → mT S11 a = mT S4 a ∧ mL S11 a = mL S4 a ∧ mR S11 a = mR S4 a ∧ mI S11 a = mI S4 a := fun a h h2 => by
    obtain ⟨y1, y2, y3, y4⟩ := g7 a h (by omega)
    obtain ⟨z1, z2, z3, z4⟩ := x7 a (by omega)
    have w : mT S5 a = mT S4 a ∧ mL S5 a = mL S4 a ∧ mR S5 a = mR S4 a ∧ mI S5 a = mI S4 a := by
      rw [hS5]
      exact ⟨rfl, rfl, by funext k; rw [wR_n (.inl h), wR_n (.inl h)], rfl⟩
    exact ⟨y1.trans (z1.trans w.1), y2.trans (z2.trans w.2.1), y3.trans (z3.trans w.2.2.1), y4.trans (z4.trans w.2.2.2)⟩
  have gm : mT S11 m = 13 ∧ mI S11 m = mI S2 m := by
    rw [hS11]
    show mT S10 m = 13 ∧ mI S10 m = _
    rw [(x10 m (by omega)).1, (x10 m (by omega)).2.2.2, hS8]
    show mT S7 m = 13 ∧ mI S7 m = _
    rw [(x7 m (by omega)).1, (x7 m (by omega)).2.2.2, hS5]
    show mT S4 m = 13 ∧ mI S4 m = _
    rw [(k3 m (by omega)).1, (k3 m (by omega)).2.2.1]
    exact ⟨t2, rfl⟩
  have gr : ∀ k, mR S11 m k = if k = 14 then some (m + 41) else if k = 13 then some (m + 24) else if k = 12 then some (m + 7) else if k = 11 then some (m + 7) else mR S2 m k := fun k => by
    rw [hS11]
    show (if m = m ∧ k = 14 then some (m + 41) else mR S10 m k) = _
    by_cases c : k = 14
    · rw [if_pos ⟨rfl, c⟩, if_pos c]
    · rw [if_neg (fun z => c z.2), if_neg c, (x10 m (by omega)).2.2.1, hS8]
      show (if m = m ∧ k = 13 then some (m + 24) else mR S7 m k) = _
      by_cases c : k = 13
      · rw [if_pos ⟨rfl, c⟩, if_pos c]
      · rw [if_neg (fun z => c z.2), if_neg c, (x7 m (by omega)).2.2.1, hS5]
        show (if m = m ∧ k = 12 then some (m + 7) else if m = m ∧ k = 11 then some (m + 7) else mR S4 m k) = _
        by_cases c : k = 12
        · rw [if_pos ⟨rfl, c⟩, if_pos c]
        · rw [if_neg (fun z => c z.2), if_neg c]
          by_cases c : k = 11
          · rw [if_pos ⟨rfl, c⟩, if_pos c]
          · rw [if_neg (fun z => c z.2), if_neg c, r4]
  have lt : ∀ j, 1 ≤ j → j < 17 → mT S11 (m + 7 + j) = 20 ∧ mL S11 (m + 7 + j) = lenD j := fun j j1 j2 => by
    obtain ⟨z1, z2, -, -⟩ := g4 (m + 7 + j) (by omega) (by omega)
    obtain ⟨w1, w2, -⟩ := k6 j j1 j2
    exact ⟨z1.trans w1, z2.trans w2⟩
  have rt : ∀ k, k < 25 → 0 < tdR k → mR S11 (m + 7) k = some (m + 7 + tdR k) := fun k c1 c2 => by
    rw [(g4 (m + 7) (by omega) (by omega)).2.2.1]; exact k7 k c1 c2
  have tt : mT S11 (m + 7) = 12 := by rw [(g4 (m + 7) (by omega) (by omega)).1]; exact k4
  have LA : LSt m (m + 7) (m + 24) S11 := by
    refine ⟨⟨by rw [(g7 (m + 24) (by omega) (by omega)).1]; exact s3, by rw [(g7 (m + 24) (by omega) (by omega)).2.2.1]; exact s4, gm.1, by rw [gr]; rfl, tt⟩, by omega, fun j j1 j2 => ?_, lt, rt⟩
    obtain ⟨w1, w2, w3⟩ := s5 j j1 j2
    obtain ⟨z1, z2, -, -⟩ := g7 (m + 24 + j) (by omega) (by omega)
    exact ⟨z1.trans w1, z2.trans w2, by rw [(g7 (m + 24) (by omega) (by omega)).2.2.1]; exact w3⟩
  have LB : LSt m (m + 7) (m + 41) S11 := by
    refine ⟨⟨by rw [(g10 (m + 41) (by omega) (by omega)).1]; exact q3, by rw [(g10 (m + 41) (by omega) (by omega)).2.2.1]; exact q4, gm.1, by rw [gr]; rfl, tt⟩, by omega, fun j j1 j2 => ?_, lt, rt⟩
    obtain ⟨w1, w2, w3⟩ := q5 j j1 j2
    obtain ⟨z1, z2, -, -⟩ := g10 (m + 41 + j) (by omega) (by omega)
    exact ⟨z1.trans w1, z2.trans w2, by rw [(g10 (m + 41) (by omega) (by omega)).2.2.1]; exact w3⟩
  obtain ⟨st', b1, b2, b3, b4, b5, b6⟩ := r_begin (st := cutF 17 (m + 24) S11) LA (by omega) (by omega) (by omega)
  rw [bC_cut] at b1
  obtain ⟨f1, f2, f3, f4, f5, f6, f7⟩ := bgA_f (a := m + 24) (N := mN S11) (M := nW S11 28 9) 9
  obtain ⟨Y, hY⟩ : ∃ Y, Y = bgA (m + 24) (mN S11) 9 (nW S11 28 9) := ⟨_, rfl⟩
  rw [← hY] at b1 f1 f2 f3 f4 f5 f6 f7
  have yo : ∀ a, a < m + 58 → mT Y a = mT S11 a ∧ mL Y a = mL S11 a ∧ mR Y a = mR S11 a ∧ mI Y a = mI S11 a := fun a h =>
    ⟨by rw [f1]; exact if_neg (by omega), by rw [f2]; exact if_neg (by omega), by rw [f6 a (by omega)]; exact if_neg (by omega), by rw [f3]; exact if_neg (by omega)⟩
  have xo : ∀ a, (a < m + 24 ∨ m + 41 ≤ a) → mI (bC 17 (m + 24) st' Y) a = mI Y a := fun a h => by funext k; exact bC_Io (by omega)
  have i11 : ∀ k, mI S11 (m + 24) k = if k = 1 then 1 else 0 := fun k => by rw [(g7 (m + 24) (by omega) (by omega)).2.2.2]; exact s7 k
  have itd : ∀ j k, j < 17 → mI S11 (m + 7 + j) k = 0 := fun j k hj => by
    rw [(g4 (m + 7 + j) (by omega) (by omega)).2.2.2]
    by_cases c : j = 0
    · subst c; exact k5 k
    · exact (k6 j (by omega) hj).2.2 k
  have s0 : ∀ k, st' 0 k = if k = 1 then 1 else 0 := fun k => by rw [b2, cutF_e (by omega)]; exact i11 k
  refine ⟨bC 17 (m + 24) st' Y, ?_, ?_, fun a ha => ?_, fun T => ?_, ?_, fun j k hj => ?_, ?_, ?_, fun j k j1 j2 j7 hk => ?_, fun k hk => ?_⟩
  · unfold f_X14_init b_X14_init_0
    have h1 : mT S1 m = 13 ∧ m < mN S1 := ⟨t1, by omega⟩
    have x13 : f_X13_init (nW S2 12 0) (mN S2) = some ((), S4) := bd_un k1
    have e5 : wR (wR S4 m 11 (some (mN S2))) m 12 (mR (wR S4 m 11 (some (mN S2))) m 11) = S5 := by
      rw [hS5, n2]
      congr 1
      exact if_pos ⟨rfl, rfl⟩
    rw [← n5] at s1
    rw [← n8] at q1
    rw [← hS0, al_sg (g := 13) ⟨t0, by omega⟩, show wI (al m ((2000 : Int32)).toNatClampNeg 1 S0) m 3 (-1) = S1 from hS1.symm, lw_S]
    rw [al_sg h1]
    rw [al_sg (al_okg h1)]
    rw [al_sg (al_okg (al_okg h1))]
    rw [al_sg (al_okg (al_okg (al_okg h1)))]
    rw [al_sg (al_okg (al_okg (al_okg (al_okg h1))))]
    rw [show al m ((401 : Int32)).toNatClampNeg 8 (al m ((401 : Int32)).toNatClampNeg 7 (al m ((401 : Int32)).toNatClampNeg 6 (al m ((401 : Int32)).toNatClampNeg 5 (al m ((401 : Int32)).toNatClampNeg 4 S1)))) = S2 from hS2.symm]
    rw [lw_S, bd_s x13, ck_t (show mT S4 m = 13 by rw [(k3 m (by omega)).1]; exact t2), lw_S, lw_S, e5, lw_S, bd_s s1, ck_t (show mT S7 m = 13 by rw [(x7 m (by omega)).1, hS5]; show mT S4 m = 13; rw [(k3 m (by omega)).1]; exact t2), n5, ← hS8, lw_S, lw_S, bd_s q1, ck_t (show mT S10 m = 13 by rw [(x10 m (by omega)).1, hS8]; show mT S7 m = 13; rw [(x7 m (by omega)).1, hS5]; show mT S4 m = 13; rw [(k3 m (by omega)).1]; exact t2), n8, ← hS11, lw_S, dr_s (show mR S11 m 13 = some (m + 24) by rw [gr]; rfl), ck_t LA.1.1, bd_s b1]
  · show mN Y = _
    rw [f5]
    show mN S11 + 1 = _
    omega
  · obtain ⟨y1, y2, y3, y4⟩ := yo a (by omega)
    obtain ⟨z1, z2, z3, z4⟩ := g4 a (by omega) (by omega)
    obtain ⟨w1, w2, w4, w5, w3⟩ := k3 a (by omega)
    have v := upN_x (upN_t u0 (upN_t u1 u2)) (Nat.le_refl _) a ha
    refine ⟨y1.trans (z1.trans (w1.trans v.1)), y2.trans (z2.trans (w2.trans v.2.1)), y3.trans (z3.trans (w3.trans v.2.2.1)), ?_⟩
    rw [xo a (by omega)]
    exact y4.trans (z4.trans (w4.trans v.2.2.2))
  · have hb : ∀ c, c < mN S11 → mT (bC 17 (m + 24) st' Y) c = mT S11 c ∧ mL (bC 17 (m + 24) st' Y) c = mL S11 c ∧ mR (bC 17 (m + 24) st' Y) c = mR S11 c := fun c hc => ⟨(yo c (by omega)).1, (yo c (by omega)).2.1, (yo c (by omega)).2.2.1⟩
    have rm : ∀ k, mR (bC 17 (m + 24) st' Y) m k = mR S11 m k := fun k => by rw [(hb m (by omega)).2.2]
    have c1 : ∀ j, 1 ≤ j → j < 7 → mT S11 (m + j) = 20 ∧ mL S11 (m + j) = if j = 1 then 2000 else 401 := fun j j1 j2 => by
      obtain ⟨z1, z2, -, -⟩ := g4 (m + j) (by omega) (by omega)
      obtain ⟨w1, w2, -, -, -⟩ := k3 (m + j) (by omega)
      by_cases c : j = 1
      · subst c
        rw [if_pos rfl]
        have v := l2 (m + 1) (by omega)
        exact ⟨z1.trans (w1.trans (v.1.trans t1'.1)), z2.trans (w2.trans (v.2.1.trans t1'.2))⟩
      · rw [if_neg c]
        obtain ⟨v1, v2, -⟩ := r2' (j - 2) (by omega)
        rw [show m + 2 + (j - 2) = m + j by omega] at v1 v2
        exact ⟨z1.trans (w1.trans v1), z2.trans (w2.trans v2)⟩
    refine ⟨⟨⟨by rw [(hb m (by omega)).1]; exact gm.1, fun j j1 j2 => by rw [(hb (m + j) (by omega)).1]; exact (c1 j j1 j2).1, by rw [(hb (m + 1) (by omega)).2.1]; exact (c1 1 (by omega) (by omega)).2, fun j j1 j2 => by rw [(hb (m + j) (by omega)).2.1, (c1 j (by omega) j2).2, if_neg (by omega)]⟩, ⟨?_, ?_, ?_, ?_, ?_, ?_⟩, ?_, by omega, fun q hq => absurd hq (by omega)⟩, ⟨?_, ?_, ?_⟩, ⟨LS_e LA hb (by omega) (by omega) (by omega), LS_e LB hb (by omega) (by omega) (by omega)⟩, ⟨by omega, ?_, ?_, .inl rfl⟩⟩
    · rw [rm, gr]; exact r2
    · rw [rm, gr]; exact (r2' 0 (by omega)).2.2
    · rw [rm, gr]; exact (r2' 1 (by omega)).2.2
    · rw [rm, gr]; exact (r2' 2 (by omega)).2.2
    · rw [rm, gr]; exact (r2' 3 (by omega)).2.2
    · rw [rm, gr]; exact (r2' 4 (by omega)).2.2
    · rw [xo m (by omega), (yo m (by omega)).2.2.2, gm.2, i2]; rfl
    · rw [rm, gr]; rfl
    · rw [rm, gr]; rfl
    · rw [rm, gr]; rfl
    · show _ ≤ mN Y
      rw [f5]
      show _ ≤ mN S11 + 1
      omega
    · show _ ≤ mN Y
      rw [f5]
      show _ ≤ mN S11 + 1
      omega
  · rw [xo m (by omega), (yo m (by omega)).2.2.2, gm.2, i2]; rfl
  · rw [xo _ (by omega), (yo _ (by omega)).2.2.2]; exact itd j k hj
  · rw [bC_I0 (by omega), s0]; rfl
  · rw [bC_I0 (by omega), s0]; rfl
  · rw [bC_I (by omega)]
    by_cases c1 : j = 1
    · subst c1
      rw [b3 k hk, show m + 7 + 2 = m + 7 + 2 from rfl]
      exact itd 2 k (by omega)
    · by_cases c4 : j = 4
      · subst c4
        rw [b4 k hk]
        exact itd 3 k (by omega)
      · obtain ⟨hi, ei⟩ := bgI_1 j j2 (by omega) j7 c4
        have z := b5 (bgI j) k hi (by rw [ei]; exact hk)
        rw [ei] at z
        exact z
  · rw [bC_I (by omega)]; exact b6 k hk
