/-! ## Pure: small methods of a State -/
theorem m5 (g : Nat) : (5 : Int32) * nI g = nI (5 * g) := nI_mul 5 g
theorem m8 (g : Nat) : (8 : Int32) * nI g = nI (8 * g) := nI_mul 8 g
theorem dn1 {n : Nat} (h : 0 < n) : nI n + (-1 : Int32) = nI (n - 1) := nI_dn h
theorem sb1 {n : Nat} (h : 1 ≤ n) : nI n - (1 : Int32) = nI (n - 1) := nI_sub (b := 1) h
theorem r_fishAt {m t a g : Nat} {st : Nat → Nat → Int32} {M : gMem} (L : LSt m t a M) (hg : g < 8) : f_X12_fishAt (bC 17 a st M) a (nI g) = some (sumN (fun k => st 1 (5 * g + k)) 5, bC 17 a st M) := by
  unfold f_X12_fishAt b_X12_fishAt_0 lp_X12_fishAt_4
  refine lp_seq (fun j => (bC 17 a st M, sumN (fun k => st 1 (5 * g + k)) j, nI j)) 0 5 (by omega) (fun j _ hj => ?_) ?_
  · have h5 : ¬ 5 ≤ j := by omega
    have h40 : 5 * g + j < 40 := by omega
    simp (disch := first | assumption | omega) [bb_X12_fishAt_4, lit, nI_leI, nI_ltI, ck_T, ck_t, dr_S, lw_S, bd_S, oI_S, inbN, nI_clamp, nI_add, nI_mul, bC_I0, bC_I, bC_W0, bC_W, q_T L, q_R18 L, q_Tm L, q_Rm L, q_Tt L, q_I L, q_Ij L, q_R2 L, q_T1 L, q_L1 L, sumN, h5, h40]
  · simp (disch := first | assumption | omega) [bb_X12_fishAt_4, lit, nI_leI, nI_ltI, ck_T, ck_t, dr_S, lw_S, bd_S, oI_S, inbN, nI_clamp, nI_add, nI_mul, bC_I0, bC_I, bC_W0, bC_W, q_T L, q_R18 L, q_Tm L, q_Rm L, q_Tt L, q_I L, q_Ij L]
theorem r_sum {m t a j : Nat} {st : Nat → Nat → Int32} {M : gMem} (L : LSt m t a M) (h1 : 1 ≤ j) (h2 : j < 17) : f_X12_sum (bC 17 a st M) a (some (a + j)) = some (sumN (st j) (lenS j), bC 17 a st M) := by
  have hT : mT (bC 17 a st M) (a + j) = 20 := (L.2.2.1 j h1 h2).1
  have hL : mL (bC 17 a st M) (a + j) = lenS j := (L.2.2.1 j h1 h2).2.1
  have hb : lenS j ≤ 400 := (by decide : ∀ j, j < 17 → lenS j ≤ 400) j h2
  unfold f_X12_sum b_X12_sum_0 lp_X12_sum_11
  rw [dr_S, ck_t hT, hL]
  refine lp_seq (fun i => (bC 17 a st M, sumN (st j) i, nI i)) 0 (lenS j) (by omega) (fun i _ hi => ?_) ?_
  · show bb_X12_sum_11 (bC 17 a st M) (sumN (st j) i) (some (a + j)) (nI (lenS j)) (nI i) = _
    have q : ¬ nI (lenS j) ≤ nI i := fun q => by have := (nI_leI (by omega) (by omega)).mp q; omega
    have q2 : inb (nI i) (lenS j) := (inbN (by omega)).mpr hi
    unfold bb_X12_sum_11
    rw [if_neg q, dr_S, ck_t hT, hL, ck_t q2, nI_clamp (by omega), bC_I h2]
    all_goals ((try simp only [lw_S, nI_1]); (try rfl))
  · show bb_X12_sum_11 (bC 17 a st M) (sumN (st j) (lenS j)) (some (a + j)) (nI (lenS j)) (nI (lenS j)) = _
    have q : nI (lenS j) ≤ nI (lenS j) := nI_le (Nat.le_refl _) (by omega)
    unfold bb_X12_sum_11
    rw [if_pos q]
    all_goals ((try simp only [lw_S, nI_1]); (try rfl))
/-- the least and the greatest of the first n, but for the numbers that a look begins with -/
def lsN (f : Nat → Int32) : Nat → Int32
  | 0 => nI 2147483647
  | n + 1 => imin (lsN f n) (f n)
def grtN (f : Nat → Int32) : Nat → Int32
  | 0 => nI 0
  | n + 1 => imax (grtN f n) (f n)
theorem r_gap {m t a F : Nat} {st : Nat → Nat → Int32} {M : gMem} (L : LSt m t a M) (hF : mI M t 4 = nI F) (h8 : F ≤ 8) : f_X12_gap (bC 17 a st M) a = some (if F = 0 then 0 else grtN (st 5) F - lsN (st 5) F, bC 17 a st M) := by
  unfold f_X12_gap b_X12_gap_0 lp_X12_gap_7
  refine lp_seq (fun j => (bC 17 a st M, lsN (st 5) j, grtN (st 5) j, nI j)) 0 F (by omega) (fun j _ hj => ?_) ?_
  · have h1 : ¬ F ≤ j := by omega
    have h2 : j < 8 := by omega
    simp (disch := first | assumption | omega) [bb_X12_gap_7, lit, nI_leI, nI_ltI, ck_T, ck_t, dr_S, lw_S, bd_S, oI_S, inbN, nI_clamp, nI_add, nI_mul, bC_I0, bC_I, bC_W0, bC_W, q_T L, q_R18 L, q_Tm L, q_Rm L, q_Tt L, q_I L, q_Ij L, hF, q_R6 L, q_T5 L, q_L5 L, lsN, grtN, h1, h2]
  · by_cases c : F = 0
    · subst c
      simp (disch := first | assumption | omega) [bb_X12_gap_7, b_X12_gap_69, lit, nI_leI, nI_ltI, ck_T, ck_t, dr_S, lw_S, bd_S, oI_S, inbN, nI_clamp, nI_add, nI_mul, bC_I0, bC_I, bC_W0, bC_W, q_T L, q_R18 L, q_Tm L, q_Rm L, q_Tt L, q_I L, q_Ij L, hF]
    · have n0 : ¬ nI F = nI 0 := nI_ne0 (by omega) (by omega)
      simp (disch := first | assumption | omega) [bb_X12_gap_7, b_X12_gap_69, lit, nI_leI, nI_ltI, ck_T, ck_t, dr_S, lw_S, bd_S, oI_S, inbN, nI_clamp, nI_add, nI_mul, bC_I0, bC_I, bC_W0, bC_W, q_T L, q_R18 L, q_Tm L, q_Rm L, q_Tt L, q_I L, q_Ij L, hF, n0, c]
theorem imin_c (x y : Int32) : imin x y = imin y x := by
  unfold imin
  by_cases h1 : y < x
  · by_cases h2 : x < y
    · exact absurd h2 (Int32.lt_asymm h1)
    · rw [if_pos h1, if_neg h2]
  · by_cases h2 : x < y
    · rw [if_neg h1, if_pos h2]
    · rw [if_neg h1, if_neg h2]
      exact Int32.le_antisymm (Int32.not_lt.mp h1) (Int32.not_lt.mp h2)
/-- lots are drawn -/
theorem va_cpy_in {f g : Nat → Int32} {i j n k : Nat} (h : j ≤ k ∧ k < j + n) : va_cpy f g i j n k = f (i + (k - j)) := by
  unfold va_cpy; rw [if_pos h]
theorem va_cpy_out {f g : Nat → Int32} {i j n k : Nat} (h : ¬ (j ≤ k ∧ k < j + n)) : va_cpy f g i j n k = g k := by
  unfold va_cpy; rw [if_neg h]
theorem r_draw1 {m t a F j : Nat} {st : Nat → Nat → Int32} {M : gMem} (L : LSt m t a M) (hF : mI M t 4 = nI F) (h8 : F ≤ 8) (hj : j < F) : bb_X12_draw_31 (bC 17 a st M) a (nI j) = some (.inl (bC 17 a (up1 (up2 (up2 st 0 1 (drN (st 0 1))) 13 j (st 14 (drP (drN (st 0 1)) (F - j)))) 14 (shD (st 14) (drP (drN (st 0 1)) (F - j)) (F - j))) M, nI (j + 1))) := by
  have hp := drP_lt (y := drN (st 0 1)) (k := F - j) (by omega) (by omega)
  have e7 : ushr (drN (st 0 1)) (16 : Int32) - ushr (drN (st 0 1)) (16 : Int32) / nI (F - j) * nI (F - j) = nI (drP (drN (st 0 1)) (F - j)) := drP_e (y := drN (st 0 1)) (k := F - j) (by omega)
  have ed : st 0 1 * (69069 : Int32) + (1 : Int32) = drN (st 0 1) := rfl
  generalize drP (drN (st 0 1)) (F - j) = p at hp e7
  have n0 : ¬ nI (F - j) = 0 := nI_ne0 (by omega) (by omega)
  have s1 : nI F - nI j = nI (F - j) := nI_sub (by omega)
  have s2 : nI (F - j) - nI p = nI (F - j - p) := nI_sub (by omega)
  have s3 : nI (F - j - p) - (1 : Int32) = nI (F - j - p - 1) := sb1 (by omega)
  have q1 : ¬ nI F ≤ nI j := fun q => by have := (nI_leI (by omega) (by omega)).mp q; omega
  have q2 : inb (nI p) 8 := (inbN (by omega)).mpr (by omega)
  have q3 : inb (nI j) 8 := (inbN (by omega)).mpr (by omega)
  have p1 : ¬ nI (p + 1) < 0 := nI_pos (by omega)
  have p2 : ¬ nI p < 0 := nI_pos (by omega)
  have p3 : ¬ nI (F - j - p - 1) < 0 := nI_pos (by omega)
  have p4 : p + 1 + (F - j - p - 1) ≤ 8 := by omega
  have p5 : p + (F - j - p - 1) ≤ 8 := by omega
  have er : va_cpy (up2 (up2 st 0 1 (drN (st 0 1))) 13 j (st 14 p) 14) (up2 (up2 st 0 1 (drN (st 0 1))) 13 j (st 14 p) 14) (p + 1) p (F - j - p - 1) = shD (st 14) p (F - j) := by
    have e : up2 (up2 st 0 1 (drN (st 0 1))) 13 j (st 14 p) 14 = st 14 := by
      funext k; rw [up2_ne (by omega), up2_ne (by omega)]
    rw [e]
    funext k
    unfold shD
    by_cases c : p ≤ k ∧ k + 1 < F - j
    · rw [if_pos c, va_cpy_in (by omega)]
      congr 1; omega
    · rw [if_neg c, va_cpy_out (by omega)]
  have e1 : up2 st 0 1 (drN (st 0 1)) 0 1 = drN (st 0 1) := up2_eq _ _ _ _
  have e2 : up2 st 0 1 (drN (st 0 1)) 14 p = st 14 p := up2_ne (by omega)
  unfold bb_X12_draw_31
  rw [ck_t (q_T L), dr_s (q_R18 L), ck_t (q_Tm L), dr_s (q_Rm L), ck_t (q_Tt L), q_I L, hF, if_neg q1, bC_I0 (by omega), bC_W0 (by omega)]
  simp only [lw_S]
  rw [dr_s (q_R18 L), ck_t (q_Tm L), dr_s (q_Rm L), ck_t (q_Tt L), q_I L, hF, s1, ck_t n0, dr_s (q_R15 L), ck_t (q_T14 L), q_L14 L, bC_I0 (by omega), ed, e1, e7, ck_t q2, dr_s (q_R14 L), ck_t (q_T13 L), q_L13 L, ck_t q3, nI_clamp (n := p) (by omega), nI_clamp (n := j) (by omega), bC_I (by omega), e2, bC_W (by omega), dr_s (q_R15 L), ck_t (q_T14 L), nI_1, ck_t p1, ck_t p2, s2, s3, ck_t p3, nI_clamp (n := p + 1) (by omega), nI_clamp (n := F - j - p - 1) (by omega), q_L14 L, ck_t p4, ck_t p5, bC_cp (by omega) (by omega), er, nI_1]
theorem r_draw {m t a F : Nat} {st : Nat → Nat → Int32} {M : gMem} (L : LSt m t a M) (hF : mI M t 4 = nI F) (h8 : F ≤ 8) : ∃ st', f_X12_draw (bC 17 a st M) a = some ((), bC 17 a st' M) ∧ st' 0 1 = lkA F (st 0 1) ∧ (∀ d k, d ≠ 13 → d ≠ 14 → (d ≠ 0 ∨ k ≠ 1) → st' d k = st d k) ∧ ∀ i, i < F → st' 13 i = nI (ltA F (st 0 1) i) := by
  obtain ⟨S, hS⟩ : ∃ S : Nat → (Nat → Nat → Int32) × Int32, S = drS (fun _ _ => 0) F (st 0 1) := ⟨_, rfl⟩
  have hc := drS_c (sg := fun _ _ => 0) (sg' := fun _ _ => 0) (x := st 0 1) (show F < 2 ^ 31 by omega)
  rw [← hS] at hc
  -- the second loop
  have key : ∀ d j st1, j + d = F → st1 0 1 = (S j).2 → (∀ k, k < F - j → st1 14 k = (S j).1 10 k) → (∀ i, i < j → st1 13 i = (S j).1 9 i) → (∀ d k, d ≠ 13 → d ≠ 14 → (d ≠ 0 ∨ k ≠ 1) → st1 d k = st d k) → ∃ st', lp_X12_draw_31 (bC 17 a st1 M) a (nI j) = some ((), bC 17 a st' M) ∧ st' 0 1 = (S F).2 ∧ (∀ i, i < F → st' 13 i = (S F).1 9 i) ∧ ∀ d k, d ≠ 13 → d ≠ 14 → (d ≠ 0 ∨ k ≠ 1) → st' d k = st d k := by
    intro d
    induction d with
    | zero =>
      intro j st1 hj h1 h2 h3 h4
      have : j = F := by omega
      subst this
      refine ⟨st1, ?_, h1, h3, h4⟩
      unfold lp_X12_draw_31
      refine lp_out ?_
      have q : nI j ≤ nI j := nI_le (Nat.le_refl _) (by omega)
      show bb_X12_draw_31 (bC 17 a st1 M) a (nI j) = _
      unfold bb_X12_draw_31
      rw [ck_t (q_T L), dr_s (q_R18 L), ck_t (q_Tm L), dr_s (q_Rm L), ck_t (q_Tt L), q_I L, hF, if_pos q]
      all_goals ((try simp only [lw_S, nI_1]); (try rfl))
    | succ d ih =>
      intro j st1 hj h1 h2 h3 h4
      have hp := drP_lt (y := drN (st1 0 1)) (k := F - j) (by omega) (by omega)
      have e : lp_X12_draw_31 (bC 17 a st1 M) a (nI j) = lp_X12_draw_31 (bC 17 a (up1 (up2 (up2 st1 0 1 (drN (st1 0 1))) 13 j (st1 14 (drP (drN (st1 0 1)) (F - j)))) 14 (shD (st1 14) (drP (drN (st1 0 1)) (F - j)) (F - j))) M) a (nI (j + 1)) := by
        unfold lp_X12_draw_31
        exact lp_in (r_draw1 L hF h8 (by omega))
      have eS1 : (S (j + 1)).1 = up1 (up2 (S j).1 9 j ((S j).1 10 (drP (drN (S j).2) (F - j)))) 10 (shD ((S j).1 10) (drP (drN (S j).2) (F - j)) (F - j)) := by rw [hS]; rfl
      have eS2 : (S (j + 1)).2 = drN (S j).2 := by rw [hS]; rfl
      rw [e]
      refine ih (j + 1) _ (by omega) ?_ ?_ ?_ ?_
      · rw [up1_o (by omega), up2_ne (by omega), up2_eq, eS2, h1]
      · intro k hk
        rw [up1_e, eS1, up1_e, ← h1]
        unfold shD
        by_cases c : drP (drN (st1 0 1)) (F - j) ≤ k ∧ k + 1 < F - j
        · rw [if_pos c, if_pos c, h2 (k + 1) c.2]
        · rw [if_neg c, if_neg c, h2 k (by omega)]
      · intro i hi
        rw [up1_o (by omega), eS1, up1_o (by omega), ← h1]
        by_cases c : i = j
        · subst c
          rw [up2_eq, up2_eq, h2 _ hp]
        · rw [up2_ne (.inr c), up2_ne (.inr c), up2_ne (by omega), h3 i (by omega)]
      · intro b k b1 b2 b3
        rw [up1_o b2, up2_ne (.inl b1), up2_ne b3, h4 b k b1 b2 b3]
  -- the first loop
  have k1 : ∀ d j st1, j + d = F → (∀ k, k < j → st1 14 k = nI k) → (∀ d k, d ≠ 14 → st1 d k = st d k) → ∃ st2, lp_X12_draw_2 (bC 17 a st1 M) a (nI j) = lp_X12_draw_31 (bC 17 a st2 M) a (nI 0) ∧ (∀ k, k < F → st2 14 k = nI k) ∧ ∀ d k, d ≠ 14 → st2 d k = st d k := by
    intro d
    induction d with
    | zero =>
      intro j st1 hj h1 h2
      have : j = F := by omega
      subst this
      refine ⟨st1, ?_, h1, h2⟩
      have q : nI j ≤ nI j := nI_le (Nat.le_refl _) (by omega)
      have e : bb_X12_draw_2 (bC 17 a st1 M) a (nI j) = oI (lp_X12_draw_31 (bC 17 a st1 M) a (nI 0)) := by
        unfold bb_X12_draw_2
        rw [ck_t (q_T L), dr_s (q_R18 L), ck_t (q_Tm L), dr_s (q_Rm L), ck_t (q_Tt L), q_I L, hF, if_pos q]
        all_goals ((try simp only [lw_S, nI_1]); (try rfl))
      conv => lhs; unfold lp_X12_draw_2
      rw [lp_eq]
      simp only [e]
      cases lp_X12_draw_31 (bC 17 a st1 M) a (nI 0) <;> rfl
    | succ d ih =>
      intro j st1 hj h1 h2
      have q : ¬ nI F ≤ nI j := fun q => by have := (nI_leI (by omega) (by omega)).mp q; omega
      have q2 : inb (nI j) 8 := (inbN (by omega)).mpr (by omega)
      have e : lp_X12_draw_2 (bC 17 a st1 M) a (nI j) = lp_X12_draw_2 (bC 17 a (up2 st1 14 j (nI j)) M) a (nI (j + 1)) := by
        unfold lp_X12_draw_2
        refine lp_in ?_
        show bb_X12_draw_2 (bC 17 a st1 M) a (nI j) = _
        unfold bb_X12_draw_2
        rw [ck_t (q_T L), dr_s (q_R18 L), ck_t (q_Tm L), dr_s (q_Rm L), ck_t (q_Tt L), q_I L, hF, if_neg q, dr_s (q_R15 L), ck_t (q_T14 L), q_L14 L, ck_t q2, nI_clamp (by omega), bC_W (by omega)]
        all_goals ((try simp only [lw_S, nI_1]); (try rfl))
      rw [e]
      refine ih (j + 1) _ (by omega) ?_ ?_
      · intro k hk
        by_cases c : k = j
        · subst c; exact up2_eq _ _ _ _
        · rw [up2_ne (.inr c), h1 k (by omega)]
      · intro b k hb
        rw [up2_ne (.inl hb), h2 b k hb]
  obtain ⟨st2, e1, e2, e3⟩ := k1 F 0 st (by omega) (fun k hk => absurd hk (Nat.not_lt_zero k)) (fun _ _ _ => rfl)
  have eS0 : S 0 = (row0 (fun _ _ => 0) F, st 0 1) := by rw [hS]; rfl
  obtain ⟨st', f1, f2, f3, f4⟩ := key F 0 st2 (by omega) (by rw [e3 0 1 (by omega), eS0]) (fun k hk => by
    have hk : k < F := hk
    rw [e2 k hk, eS0]
    simp only [row0, up1_e, if_pos hk]) (fun i hi => absurd hi (Nat.not_lt_zero i)) (fun d k h1 h2 h3 => e3 d k h2)
  refine ⟨st', ?_, by rw [f2, hS]; rfl, f4, fun i hi => ?_⟩
  · unfold f_X12_draw b_X12_draw_0
    exact e1.trans f1
  · obtain ⟨-, v, hv, ev⟩ := (hc F (Nat.le_refl _)).2.2 i hi
    rw [f3 i hi]
    unfold ltA
    rw [← hS, ev, nI_clamp (by omega)]
/-- a ground grows -/
theorem r_grow1 {m t a g j : Nat} {f : Nat → Int32} {st : Nat → Nat → Int32} {M : gMem} (L : LSt m t a M) (hg : g < 8) (hj : j < 4) (h : ∀ k, k < 5 → st 1 (5 * g + k) = f (k + 1)) : ∃ r, bb_X12_grow_6 (bC 17 a st M) a (nI g) (nI (5 * g)) (nI (3 - j)) = some (.inl (bC 17 a (up1 st 1 r) M, nI (3 - j) + (-1 : Int32))) ∧ (∀ k, k < 5 → r (5 * g + k) = gr1 f (4 - j) (k + 1)) ∧ ∀ i, (i < 5 * g ∨ 5 * g + 5 ≤ i) → r i = st 1 i := by
  have q1 : ¬ nI (3 - j) < 0 := nI_pos (by omega)
  have i1 : inb (nI (5 * g + (3 - j))) 40 := (inbN (by omega)).mpr (by omega)
  have i2 : inb (nI (5 * g + (3 - j) + 1)) 40 := (inbN (by omega)).mpr (by omega)
  have e1 := h (3 - j) (by omega)
  have e2 := h (3 - j + 1) (by omega)
  refine ⟨up1 (up1 (st 1) (5 * g + (3 - j)) (st 1 (5 * g + (3 - j)) - st 1 (5 * g + (3 - j)) / (5 : Int32))) (5 * g + (3 - j) + 1) (imin ((99 : Int32)) (st 1 (5 * g + (3 - j) + 1) + st 1 (5 * g + (3 - j)) / (5 : Int32))), ?_, fun k hk => ?_, fun i hi => ?_⟩
  · have w1 : ∀ v, up2 st 1 (5 * g + (3 - j)) v = up1 st 1 (up1 (st 1) (5 * g + (3 - j)) v) := fun v => up2_up1 _ _ _ _
    unfold bb_X12_grow_6
    rw [if_neg q1, ck_t (q_T L), dr_s (q_R2 L), ck_t (q_T1 L), q_L1 L, nI_add, ck_t i1, ck_t i1, ck_t i1, nI_clamp (n := 5 * g + (3 - j)) (by omega), bC_I (by omega), bC_W (by omega), w1]
    simp only [lw_S]
    rw [dr_s (q_R2 L), ck_t (q_T1 L), q_L1 L, nI_1, ck_t i2, ck_t i2, nI_clamp (n := 5 * g + (3 - j) + 1) (by omega), bC_I (by omega), bC_W (by omega), up2_up1s, up1_e, up1_o (show 5 * g + (3 - j) + 1 ≠ 5 * g + (3 - j) by omega)]
  · rw [show 5 * g + (3 - j) + 1 = 5 * g + (3 - j + 1) by omega, e1, e2]
    have p1 : 3 - j + 1 = 4 - j := by omega
    unfold gr1
    rw [imin_c, p1]
    by_cases c : k = 4 - j
    · subst c
      rw [up1_e, up1_e]
      all_goals ((try simp only [lw_S, nI_1]); (try rfl))
    · rw [up1_o (by omega), up1_o (show k + 1 ≠ 4 - j + 1 by omega)]
      by_cases c2 : k = 3 - j
      · subst c2
        rw [up1_e, p1, up1_e]
        all_goals ((try simp only [lw_S, nI_1]); (try rfl))
      · rw [up1_o (by omega), up1_o (show k + 1 ≠ 4 - j by omega), h k hk]
  · rw [up1_o (by omega), up1_o (by omega)]
theorem sum5_N {f h : Nat → Int32} : ∀ n, (∀ k, k < n → f (k + 1) = h k) → sum5 f n = sumN h n
  | 0, _ => rfl
  | n + 1, e => by rw [sum5, sumN, sum5_N n (fun k hk => e k (by omega)), e n (by omega)]
theorem r_grow {m t a g : Nat} {f : Nat → Int32} {st : Nat → Nat → Int32} {M : gMem} (L : LSt m t a M) (hg : g < 8) (h : ∀ k, k < 5 → st 1 (5 * g + k) = f (k + 1)) : ∃ r, f_X12_grow (bC 17 a st M) a (nI g) = some ((), bC 17 a (up1 st 1 r) M) ∧ (∀ k, k < 5 → r (5 * g + k) = gro f (k + 1)) ∧ ∀ i, (i < 5 * g ∨ 5 * g + 5 ≤ i) → r i = st 1 i := by
  have key : ∀ d j r0, j + d = 4 → (∀ k, k < 5 → r0 (5 * g + k) = grN f j (k + 1)) → (∀ i, (i < 5 * g ∨ 5 * g + 5 ≤ i) → r0 i = st 1 i) → ∃ r, lp_X12_grow_6 (bC 17 a (up1 st 1 r0) M) a (nI g) (nI (5 * g)) (nI (4 - j) + (-1 : Int32)) = lp_X12_grow_6 (bC 17 a (up1 st 1 r) M) a (nI g) (nI (5 * g)) (nI 0 + (-1 : Int32)) ∧ (∀ k, k < 5 → r (5 * g + k) = grN f 4 (k + 1)) ∧ ∀ i, (i < 5 * g ∨ 5 * g + 5 ≤ i) → r i = st 1 i := by
    intro d
    induction d with
    | zero =>
      intro j r0 hj h1 h2
      have : j = 4 := by omega
      subst this
      exact ⟨r0, rfl, h1, h2⟩
    | succ d ih =>
      intro j r0 hj h1 h2
      obtain ⟨r, e1, e2, e3⟩ := r_grow1 (st := up1 st 1 r0) (f := grN f j) (j := j) L hg (by omega) (fun k hk => by rw [up1_e]; exact h1 k hk)
      rw [up1_up1] at e1
      have e4 : nI (4 - j) + (-1 : Int32) = nI (3 - j) := by rw [dn1 (by omega)]; congr 1; omega
      have e5 : nI (4 - (j + 1)) = nI (3 - j) := by congr 1; omega
      obtain ⟨r', g1, g2, g3⟩ := ih (j + 1) r (by omega) e2 (fun i hi => by rw [e3 i hi, up1_e, h2 i hi])
      refine ⟨r', ?_, g2, g3⟩
      rw [← g1, e4, e5]
      unfold lp_X12_grow_6
      exact lp_in e1
  have es : up1 st 1 (st 1) = st := up1_self st 1
  obtain ⟨r, e1, e2, e3⟩ := key 4 0 (st 1) (by omega) h (fun i _ => rfl)
  rw [es] at e1
  have hs : sumN (fun k => (up1 st 1 r) 1 (5 * g + k)) 5 = sum5 (grN f 4) 5 := (sum5_N 5 (fun k hk => by rw [up1_e, e2 k hk])).symm
  have i0 : inb (nI (5 * g)) 40 := (inbN (by omega)).mpr (by omega)
  refine ⟨up1 r (5 * g) (imin ((99 : Int32)) (r (5 * g) + sum5 (grN f 4) 5 / (6 : Int32))), ?_, fun k hk => ?_, fun i hi => ?_⟩
  · have e0 : f_X12_grow (bC 17 a st M) a (nI g) = lp_X12_grow_6 (bC 17 a st M) a (nI g) (nI (5 * g)) (nI (4 - 0) + (-1 : Int32)) := by
      unfold f_X12_grow b_X12_grow_0
      rw [m5, show nI (4 - 0) + (-1 : Int32) = 3 by decide]
      all_goals ((try simp only [lw_S, nI_1]); (try rfl))
    rw [e0, e1]
    unfold lp_X12_grow_6
    refine lp_out ?_
    have qn : nI 0 + (-1 : Int32) < 0 := by decide
    show bb_X12_grow_6 (bC 17 a (up1 st 1 r) M) a (nI g) (nI (5 * g)) (nI 0 + (-1 : Int32)) = _
    unfold bb_X12_grow_6
    rw [if_pos qn, ck_t (q_T L), dr_s (q_R2 L), ck_t (q_T1 L), q_L1 L, ck_t i0, r_fishAt L hg, bd_S, ck_t (q_T1 L), q_L1 L, ck_t i0, nI_clamp (by omega), bC_I (by omega), bC_W (by omega), hs, up2_up1s, up1_e]
    all_goals ((try simp only [lw_S, nI_1]); (try rfl))
  · unfold gro
    by_cases c : k = 0
    · subst c
      have := e2 0 (by omega)
      rw [Nat.add_zero] at this ⊢
      rw [up1_e, this, imin_c]
      all_goals ((try simp only [lw_S, nI_1]); (try rfl))
    · rw [up1_o (by omega), up1_o (by omega), e2 k hk]
  · rw [up1_o (by omega), e3 i hi]
