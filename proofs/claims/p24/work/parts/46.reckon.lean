theorem cS6 {o i : Nat} {z : Option Nat} {sg : Nat → Nat → Int32} {M : gMem} (h : mR M (o + 6) i = z) : mR (sC o sg M) (o + 6) i = z := h
theorem op_cases {α : Type} (k : Int32) (A B C : α) : (if k = (5 : Int32) then A else (if k = (6 : Int32) then C else (if k = (7 : Int32) then B else (if k = (8 : Int32) then C else (if k = (9 : Int32) then C else (if k = (10 : Int32) then C else (if k = (11 : Int32) then C else (if k = (12 : Int32) then C else (if k = (13 : Int32) then B else (if k = (14 : Int32) then B else (if k = (15 : Int32) then B else (if k = (16 : Int32) then B else (if k = (17 : Int32) then B else (if k = (18 : Int32) then B else (if k = (19 : Int32) then B else (if k = (20 : Int32) then C else (if k = (21 : Int32) then C else (if k = (22 : Int32) then C else (if k = (23 : Int32) then C else (if k = (24 : Int32) then A else C)))))))))))))))))))) = (if k = 7 ∨ k = 13 ∨ k = 14 ∨ k = 15 ∨ k = 16 ∨ k = 17 ∨ k = 18 ∨ k = 19 then B else if k = 5 ∨ k = 24 then A else C) := by
  by_cases h5 : k = (5 : Int32)
  · subst h5; simp
  by_cases h6 : k = (6 : Int32)
  · subst h6; simp
  by_cases h7 : k = (7 : Int32)
  · subst h7; simp
  by_cases h8 : k = (8 : Int32)
  · subst h8; simp
  by_cases h9 : k = (9 : Int32)
  · subst h9; simp
  by_cases h10 : k = (10 : Int32)
  · subst h10; simp
  by_cases h11 : k = (11 : Int32)
  · subst h11; simp
  by_cases h12 : k = (12 : Int32)
  · subst h12; simp
  by_cases h13 : k = (13 : Int32)
  · subst h13; simp
  by_cases h14 : k = (14 : Int32)
  · subst h14; simp
  by_cases h15 : k = (15 : Int32)
  · subst h15; simp
  by_cases h16 : k = (16 : Int32)
  · subst h16; simp
  by_cases h17 : k = (17 : Int32)
  · subst h17; simp
  by_cases h18 : k = (18 : Int32)
  · subst h18; simp
  by_cases h19 : k = (19 : Int32)
  · subst h19; simp
  by_cases h20 : k = (20 : Int32)
  · subst h20; simp
  by_cases h21 : k = (21 : Int32)
  · subst h21; simp
  by_cases h22 : k = (22 : Int32)
  · subst h22; simp
  by_cases h23 : k = (23 : Int32)
  · subst h23; simp
  by_cases h24 : k = (24 : Int32)
  · subst h24; simp
  simp only [h5, h6, h7, h8, h9, h10, h11, h12, h13, h14, h15, h16, h17, h18, h19, h20, h21, h22, h23, h24, if_false, or_self]
theorem s9_step {Z pg : Nat → Nat} {M : gMem} {o len en i t : Nat} {sg : Nat → Nat → Int32} (L : LC o M) (hZ : ∀ a b : Nat, a < 45 → b < 45 → Z a = Z b → a = b) (hp : pg i < 45) (hr : mR M (o + 6) i = some (Z (pg i))) (hl : sg 5 0 = nI len) (hlen : len ≤ 400) (hv : valOK (pg i) (sg 7 i)) (hi : i < len) (he : i < en) (hen : en < 2 ^ 31) (ht : t < 400) : bb_X9_reckon_6 Z (sC o sg M) (o + 5) (nI en) (some o) (nI t) (nI i) = some (.inl (sC o (rk1 pg i (sg, t)).1 M, nI (rk1 pg i (sg, t)).2, nI (i + 1))) := by
  have ho := ordZ_e hZ hp
  have hr' : mR (sC o sg M) (o + 6) i = some (Z (pg i)) := hr
  have hval := s9_valueOn (M := M) (sg := sg) (v := sg 7 i) L ho hv
  have hz : (Z (pg i) = Z 20) ↔ pg i = 20 := ⟨fun q => hZ _ _ hp (by omega) q, fun q => by rw [q]⟩
  have h1 : ¬ en ≤ i := by omega
  have h2 : ¬ len ≤ i := by omega
  have hcmb : ∀ a b, f_X9_combine Z (sC o sg M) (some (Z (pg i))) a b = some (cmbN (pg i) a b, sC o sg M) := fun a b => s9_combine ho
  have base : bb_X9_reckon_6 Z (sC o sg M) (o + 5) (nI en) (some o) (nI t) (nI i) = (if isPush (pg i) then b_X9_reckon_128 Z (sC o sg M) (o + 5) (nI en) (some o) (nI t) (nI i) else if isUn (pg i) then b_X9_reckon_169 Z (sC o sg M) (o + 5) (nI en) (some o) (nI t) (nI i) else b_X9_reckon_224 Z (sC o sg M) (o + 5) (nI en) (some o) (nI t) (nI i)) := by
    have q1 : ¬ nI en ≤ nI i := fun q => h1 ((nI_leI (by omega) (by omega)).mp q)
    have q2 : ¬ nI len ≤ nI i := fun q => h2 ((nI_leI (by omega) (by omega)).mp q)
    have q3 : inb (nI i) 400 := (inbN (by omega)).mpr (by omega)
    unfold bb_X9_reckon_6
    rw [if_neg q1, ck_t (cT5 L), sC_I (by omega), hl, if_neg q2, dr_s (cR5_1 L), ck_t (cT6 L), cL6 L, ck_t q3, nI_clamp (by omega), hr', dr_s ho]
    exact op_cases (gSw (pg i)) _ _ _
  rw [base]
  unfold rk1
  by_cases c1 : isPush (pg i)
  · rw [if_pos c1, if_pos c1]
    have q4 : ¬ (400 : Nat) ≤ t := by omega
    have q5 : ¬ Int32.ofNat 400 ≤ nI t := fun q => q4 ((nI_leI (a := 400) (by omega) (by omega)).mp q)
    have q3 : inb (nI i) 400 := (inbN (by omega)).mpr (by omega)
    have q6 : inb (nI t) 400 := (inbN (by omega)).mpr (by omega)
    unfold b_X9_reckon_128
    rw [ck_t (cT5 L), dr_s (cR5_3 L), ck_t (cT8 L), cL8 L, if_neg q5, dr_s (cR5_1 L), ck_t (cT6 L), cL6 L, ck_t q3, dr_s (cR5_2 L), ck_t (cT7 L), cL7 L, ck_t q3, nI_clamp (by omega), hr', sC_I (by omega), hval, bd_S, ck_t (cT8 L), cL8 L, ck_t q6, nI_clamp (by omega), sC_W (by omega)]
    simp only [lw_S, b_X9_reckon_268, lit, nI_add]
  · rw [if_neg c1, if_neg c1]
    by_cases c2 : isUn (pg i)
    · rw [if_pos c2, if_pos c2]
      unfold b_X9_reckon_169
      by_cases c3 : t < 1
      · have q4 : nI t < (1 : Int32) := (nI_ltI (a := t) (b := 1) (by omega) (by omega)).mpr c3
        rw [if_pos q4, if_pos c3]
        simp only [b_X9_reckon_268, lit, nI_add]
      · have q4 : ¬ nI t < (1 : Int32) := fun q => c3 ((nI_ltI (a := t) (b := 1) (by omega) (by omega)).mp q)
        have q3 : inb (nI i) 400 := (inbN (by omega)).mpr (by omega)
        have q7 : nI t - (1 : Int32) = nI (t - 1) := nI_sub (a := t) (b := 1) (by omega)
        have q6 : inb (nI (t - 1)) 400 := (inbN (by omega)).mpr (by omega)
        rw [if_neg q4, if_neg c3, ck_t (cT5 L), dr_s (cR5_1 L), ck_t (cT6 L), cL6 L, ck_t q3, nI_clamp (by omega), hr']
        unfold b_X9_reckon_220
        rw [q7]
        by_cases c4 : pg i = 20
        · have q8 : some (Z (pg i)) = some (Z 20) := congrArg some (hz.mpr c4)
          rw [if_pos q8, dr_s (cR5_3 L), ck_t (cT8 L), cL8 L, ck_t q6, dr_s (cR5_3 L), ck_t (cT8 L), cL8 L, ck_t q6, nI_clamp (by omega), sC_I (by omega), sC_W (by omega)]
          simp only [lw_S, b_X9_reckon_268, lit, nI_add, c4, if_true]
        · have q8 : ¬ some (Z (pg i)) = some (Z 20) := fun q => c4 (hz.mp (Option.some.inj q))
          rw [if_neg q8, dr_s (cR5_3 L), ck_t (cT8 L), cL8 L, ck_t q6, dr_s (cR5_3 L), ck_t (cT8 L), cL8 L, ck_t q6, nI_clamp (by omega), sC_I (by omega), sC_W (by omega)]
          simp only [lw_S, b_X9_reckon_268, lit, nI_add, c4, if_false]
    · rw [if_neg c2, if_neg c2]
      unfold b_X9_reckon_224
      by_cases c3 : t < 2
      · have q4 : nI t < (2 : Int32) := (nI_ltI (a := t) (b := 2) (by omega) (by omega)).mpr c3
        rw [if_pos q4, if_pos c3]
        simp only [b_X9_reckon_268, lit, nI_add]
      · have q4 : ¬ nI t < (2 : Int32) := fun q => c3 ((nI_ltI (a := t) (b := 2) (by omega) (by omega)).mp q)
        have q3 : inb (nI i) 400 := (inbN (by omega)).mpr (by omega)
        have q7 : nI t + (-1 : Int32) = nI (t - 1) := nI_dn (by omega)
        have q9 : nI (t - 1) - (1 : Int32) = nI (t - 2) := nI_sub (a := t - 1) (b := 1) (by omega)
        have q6 : inb (nI (t - 1)) 400 := (inbN (by omega)).mpr (by omega)
        have q5 : inb (nI (t - 2)) 400 := (inbN (by omega)).mpr (by omega)
        rw [if_neg q4, if_neg c3, q7, q9, ck_t (cT5 L), dr_s (cR5_1 L), ck_t (cT6 L), cL6 L, ck_t q3, dr_s (cR5_3 L), ck_t (cT8 L), cL8 L, ck_t q5, ck_t q6, nI_clamp (n := i) (by omega), hr', hcmb, bd_S, ck_t (cT8 L), cL8 L, ck_t q5, nI_clamp (n := t - 1) (by omega), nI_clamp (n := t - 2) (by omega), sC_I (by omega), sC_I (by omega), sC_W (by omega)]
        simp only [lw_S, b_X9_reckon_268, lit, nI_add]
theorem s9_reckon {Z pg : Nat → Nat} {M : gMem} {o len st en : Nat} {sg : Nat → Nat → Int32} (L : LC o M) (hZ : ∀ a b : Nat, a < 45 → b < 45 → Z a = Z b → a = b) (hp : ∀ i, i < len → pg i < 45 ∧ mR M (o + 6) i = some (Z (pg i)) ∧ valOK (pg i) (sg 7 i)) (hl : sg 5 0 = nI len) (hlen : len ≤ 400) (hst : st < 2 ^ 30) (hen : en < 2 ^ 31) : f_X9_reckon Z (sC o sg M) (o + 5) (nI st) (nI en) (some o) = some (rkV pg st sg (min en len - st), sC o (rkN pg st sg (min en len - st)).1 M) := by
  have hm : min en len ≤ 400 := Nat.le_trans (Nat.min_le_right _ _) hlen
  have hm1 : min en len ≤ en := Nat.min_le_left _ _
  have hm2 : min en len ≤ len := Nat.min_le_right _ _
  unfold f_X9_reckon b_X9_reckon_0 lp_X9_reckon_6
  refine lp_seq (fun j => (sC o (rkN pg st sg j).1 M, nI (rkN pg st sg j).2, nI (st + j))) 0 (min en len - st) (by omega) (fun j _ hj => ?_) ?_
  · have ht := rkN_top (pg := pg) (st := st) (sg := sg) j
    obtain ⟨p1, p2, p3⟩ := hp (st + j) (by omega)
    exact s9_step (M := M) (len := len) L hZ p1 p2 (by rw [rkN_o (by omega)]; exact hl) hlen (by rw [rkN_o (by omega)]; exact p3) (by omega) (by omega) hen (by omega)
  · have ht := rkN_top (pg := pg) (st := st) (sg := sg) (min en len - st)
    have fin : b_X9_reckon_274 Z (sC o (rkN pg st sg (min en len - st)).1 M) (o + 5) (nI (rkN pg st sg (min en len - st)).2) = some (rkV pg st sg (min en len - st), sC o (rkN pg st sg (min en len - st)).1 M) := by
      unfold b_X9_reckon_274 rkV
      by_cases c : (rkN pg st sg (min en len - st)).2 = 0
      · have q : nI (rkN pg st sg (min en len - st)).2 ≤ 0 := by rw [c]; decide
        rw [if_pos q, if_pos c]
        rfl
      · have q : ¬ nI (rkN pg st sg (min en len - st)).2 ≤ 0 := nI_nle (by omega) (by omega)
        have q6 : inb (0 : Int32) 400 := by decide
        rw [if_neg q, if_neg c, ck_t (cT5 L), dr_s (cR5_3 L), ck_t (cT8 L), cL8 L, ck_t q6, sC_I (by omega)]
        rfl
    show bb_X9_reckon_6 Z _ (o + 5) (nI en) (some o) _ _ = _
    unfold bb_X9_reckon_6
    by_cases c : en ≤ st + (min en len - st)
    · have q : nI en ≤ nI (st + (min en len - st)) := (nI_leI (by omega) (by omega)).mpr c
      rw [if_pos q, fin]
      rfl
    · have q : ¬ nI en ≤ nI (st + (min en len - st)) := fun z => c ((nI_leI (by omega) (by omega)).mp z)
      have c2 : len ≤ st + (min en len - st) := by omega
      have q2 : nI len ≤ nI (st + (min en len - st)) := (nI_leI (by omega) (by omega)).mpr c2
      rw [if_neg q, ck_t (cT5 L), sC_I (by omega), rkN_o (by omega), hl, if_pos q2, fin]
      rfl

