/-! ## Pure: sums -/
noncomputable def cmbN (g : Nat) (a b : Int32) : Int32 :=
  if gSw g = 8 then (if b ≤ a then 0 else 1) else if gSw g = 9 then (if a ≤ b then 0 else 1) else if gSw g = 10 then (if a = b then 1 else 0) else if gSw g = 11 then (if b < a then 0 else 1) else if gSw g = 12 then (if a < b then 0 else 1)
  else if gSw g = 20 then a - b else if gSw g = 22 then imin a b else if gSw g = 23 then imax a b else if gSw g = 25 then a + b else if gSw g = 26 then a * b else if gSw g = 27 then (if b = 0 then 0 else a / b) else if gSw g = 28 then a &&& b else if gSw g = 29 then a ||| b else 0
theorem s9_combine {Z : Nat → Nat} {M : gMem} {r : Option Nat} {g : Nat} {a b : Int32} (h : ordZ Z r = some g) : f_X9_combine Z M r a b = some (cmbN g a b, M) := by
  unfold f_X9_combine b_X9_combine_0 cmbN
  rw [dr_s h]
  generalize gSw g = k
  simp only [b_X9_combine_211, b_X9_combine_210, b_X9_combine_199, b_X9_combine_188, b_X9_combine_177, b_X9_combine_166, b_X9_combine_135]
  by_cases h8 : k = (8 : Int32)
  · subst h8; by_cases c : b ≤ a <;> simp [c]
  by_cases h9 : k = (9 : Int32)
  · subst h9; by_cases c : a ≤ b <;> simp [c]
  by_cases h10 : k = (10 : Int32)
  · subst h10; by_cases c : a = b <;> simp [c]
  by_cases h11 : k = (11 : Int32)
  · subst h11; by_cases c : b < a <;> simp [c]
  by_cases h12 : k = (12 : Int32)
  · subst h12; by_cases c : a < b <;> simp [c]
  by_cases h13 : k = (13 : Int32)
  · subst h13; simp
  by_cases h14 : k = (14 : Int32)
  · subst h14; simp
  by_cases h15 : k = (15 : Int32)
  · subst h15; simp
  by_cases h16 : k = (16 : Int32)
  · subst h16; simp
  by_cases h17 : k = (17 : Int32)
  · subst h17; simp
  by_cases h18 : k = (18 : Int32)
  · subst h18; simp
  by_cases h19 : k = (19 : Int32)
  · subst h19; simp
  by_cases h20 : k = (20 : Int32)
  · subst h20; simp
  by_cases h21 : k = (21 : Int32)
  · subst h21; simp
  by_cases h22 : k = (22 : Int32)
  · subst h22; simp
  by_cases h23 : k = (23 : Int32)
  · subst h23; simp
  by_cases h24 : k = (24 : Int32)
  · subst h24; simp
  by_cases h25 : k = (25 : Int32)
  · subst h25; simp
  by_cases h26 : k = (26 : Int32)
  · subst h26; simp
  by_cases h27 : k = (27 : Int32)
  · subst h27; by_cases c : b = 0 <;> simp [c, ck]
  by_cases h28 : k = (28 : Int32)
  · subst h28; simp
  by_cases h29 : k = (29 : Int32)
  · subst h29; simp
  simp only [h8, h9, h10, h11, h12, h13, h14, h15, h16, h17, h18, h19, h20, h21, h22, h23, h24, h25, h26, h27, h28, h29, if_false]
noncomputable def valN (sg : Nat → Nat → Int32) (g : Nat) (v : Int32) : Int32 :=
  if gSw g = 7 then (if sg (34 + 2 * v.toNatClampNeg) 9 = 0 then 0 else 1) else if gSw g = 14 then sg 0 0 else if gSw g = 15 then sg (34 + 2 * v.toNatClampNeg) 4 else if gSw g = 16 then sg (34 + 2 * v.toNatClampNeg) 5 else if gSw g = 17 then sg (34 + 2 * v.toNatClampNeg) 1 else if gSw g = 18 then sum5 (sg (19 + 2 * v.toNatClampNeg)) 5 else if gSw g = 19 then sg (18 + 2 * v.toNatClampNeg) 1 else v
/-- a value that speaks of a fisher or a ground speaks of one of the eight -/
def valOK (g : Nat) (v : Int32) : Prop := (gSw g = 7 ∨ gSw g = 15 ∨ gSw g = 16 ∨ gSw g = 17 ∨ gSw g = 18 ∨ gSw g = 19) → ∃ j : Nat, j < 8 ∧ v = nI j
theorem s9_valueOn {Z : Nat → Nat} {M : gMem} {o : Nat} {sg : Nat → Nat → Int32} {r : Option Nat} {g : Nat} {v : Int32} (L : LC o M) (h : ordZ Z r = some g) (hv : valOK g v) : f_X9_valueOn Z (sC o sg M) (some o) r v = some (valN sg g v, sC o sg M) := by
  unfold f_X9_valueOn b_X9_valueOn_0 valN
  unfold valOK at hv
  rw [dr_s h]
  generalize gSw g = k at hv
  simp only [b_X9_valueOn_149, b_X9_valueOn_128]
  by_cases h7 : k = (7 : Int32)
  · subst h7; obtain ⟨j, hj, rfl⟩ := hv (by simp); by_cases c : sg (34 + 2 * j) 9 = 0 <;> simp (disch := first | assumption | omega) [ck_T, ck_t, dr_S, bd_S, inbN, nI_clamp, nI_pos', hj, sC_I, sC_I0, cT0, cR0_7, cR0_6, cT2, cL2, cRrf, cTf, cT1, cL1, cRrg, cTg, s_gFish, c]
  by_cases h8 : k = (8 : Int32)
  · subst h8; simp
  by_cases h9 : k = (9 : Int32)
  · subst h9; simp
  by_cases h10 : k = (10 : Int32)
  · subst h10; simp
  by_cases h11 : k = (11 : Int32)
  · subst h11; simp
  by_cases h12 : k = (12 : Int32)
  · subst h12; simp
  by_cases h13 : k = (13 : Int32)
  · subst h13; simp
  by_cases h14 : k = (14 : Int32)
  · subst h14; simp (disch := first | assumption | omega) [ck_T, ck_t, dr_S, bd_S, inbN, nI_clamp, nI_pos', sC_I, sC_I0, cT0, cR0_7, cR0_6, cT2, cL2, cRrf, cTf, cT1, cL1, cRrg, cTg, s_gFish]
  by_cases h15 : k = (15 : Int32)
  · subst h15; obtain ⟨j, hj, rfl⟩ := hv (by simp); simp (disch := first | assumption | omega) [ck_T, ck_t, dr_S, bd_S, inbN, nI_clamp, nI_pos', hj, sC_I, sC_I0, cT0, cR0_7, cR0_6, cT2, cL2, cRrf, cTf, cT1, cL1, cRrg, cTg, s_gFish]
  by_cases h16 : k = (16 : Int32)
  · subst h16; obtain ⟨j, hj, rfl⟩ := hv (by simp); simp (disch := first | assumption | omega) [ck_T, ck_t, dr_S, bd_S, inbN, nI_clamp, nI_pos', hj, sC_I, sC_I0, cT0, cR0_7, cR0_6, cT2, cL2, cRrf, cTf, cT1, cL1, cRrg, cTg, s_gFish]
  by_cases h17 : k = (17 : Int32)
  · subst h17; obtain ⟨j, hj, rfl⟩ := hv (by simp); simp (disch := first | assumption | omega) [ck_T, ck_t, dr_S, bd_S, inbN, nI_clamp, nI_pos', hj, sC_I, sC_I0, cT0, cR0_7, cR0_6, cT2, cL2, cRrf, cTf, cT1, cL1, cRrg, cTg, s_gFish]
  by_cases h18 : k = (18 : Int32)
  · subst h18; obtain ⟨j, hj, rfl⟩ := hv (by simp); simp (disch := first | assumption | omega) [ck_T, ck_t, dr_S, bd_S, inbN, nI_clamp, nI_pos', hj, sC_I, sC_I0, cT0, cR0_7, cR0_6, cT2, cL2, cRrf, cTf, cT1, cL1, cRrg, cTg, s_gFish]
  by_cases h19 : k = (19 : Int32)
  · subst h19; obtain ⟨j, hj, rfl⟩ := hv (by simp); simp (disch := first | assumption | omega) [ck_T, ck_t, dr_S, bd_S, inbN, nI_clamp, nI_pos', hj, sC_I, sC_I0, cT0, cR0_7, cR0_6, cT2, cL2, cRrf, cTf, cT1, cL1, cRrg, cTg, s_gFish]
  simp only [h7, h8, h9, h10, h11, h12, h13, h14, h15, h16, h17, h18, h19, if_false]
theorem ordZ_e {Z : Nat → Nat} {g : Nat} (hZ : ∀ a b : Nat, a < 45 → b < 45 → Z a = Z b → a = b) (h : g < 45) : ordZ Z (some (Z g)) = some g := by
  unfold ordZ
  rw [List.find?_range_eq_some]
  refine ⟨by simp, List.mem_range.mpr h, fun j hj => ?_⟩
  have : ¬ Z g = Z j := fun q => by have := hZ g j h (by omega) q; omega
  simp [this]
abbrev isPush (g : Nat) : Prop := gSw g = 7 ∨ gSw g = 13 ∨ gSw g = 14 ∨ gSw g = 15 ∨ gSw g = 16 ∨ gSw g = 17 ∨ gSw g = 18 ∨ gSw g = 19
abbrev isUn (g : Nat) : Prop := gSw g = 5 ∨ gSw g = 24
/-- one sign of a sum: the ints (the stack is at 8) and the number of values on the stack -/
noncomputable def rk1 (pg : Nat → Nat) (i : Nat) (q : (Nat → Nat → Int32) × Nat) : (Nat → Nat → Int32) × Nat :=
  if isPush (pg i) then (up2 q.1 8 q.2 (valN q.1 (pg i) (q.1 7 i)), q.2 + 1)
  else if isUn (pg i) then (if q.2 < 1 then q else (up2 q.1 8 (q.2 - 1) (if pg i = 20 then nI 1 - q.1 8 (q.2 - 1) else - q.1 8 (q.2 - 1)), q.2))
  else (if q.2 < 2 then q else (up2 q.1 8 (q.2 - 2) (cmbN (pg i) (q.1 8 (q.2 - 2)) (q.1 8 (q.2 - 1))), q.2 - 1))
noncomputable def rkN (pg : Nat → Nat) (st : Nat) (sg : Nat → Nat → Int32) : Nat → (Nat → Nat → Int32) × Nat
  | 0 => (sg, 0)
  | j + 1 => rk1 pg (st + j) (rkN pg st sg j)
theorem rkN_o {pg : Nat → Nat} {st : Nat} {sg : Nat → Nat → Int32} {d : Nat} (h : d ≠ 8) : ∀ j, (rkN pg st sg j).1 d = sg d
  | 0 => rfl
  | j + 1 => by
    have := rkN_o (pg := pg) (st := st) (sg := sg) h j
    funext k
    simp only [rkN, rk1]
    split
    · simp only [up2_ne (.inl h), this]
    · split
      · split
        · rw [this]
        · simp only [up2_ne (.inl h), this]
      · split
        · rw [this]
        · simp only [up2_ne (.inl h), this]
theorem rkN_top {pg : Nat → Nat} {st : Nat} {sg : Nat → Nat → Int32} : ∀ j, (rkN pg st sg j).2 ≤ j
  | 0 => Nat.le_refl _
  | j + 1 => by
    have := rkN_top (pg := pg) (st := st) (sg := sg) j
    simp only [rkN, rk1]
    split
    · simp only; omega
    · split
      · split
        · omega
        · simp only; omega
      · split
        · omega
        · simp only; omega
noncomputable def rkV (pg : Nat → Nat) (st : Nat) (sg : Nat → Nat → Int32) (n : Nat) : Int32 := if (rkN pg st sg n).2 = 0 then 0 else (rkN pg st sg n).1 8 0

