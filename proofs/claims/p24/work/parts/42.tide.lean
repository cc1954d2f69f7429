/-! ## Pure: small methods of a Shore -/
/-- all boats at home -/
def boat0 (sg : Nat → Nat → Int32) : Nat → Nat → Nat → Int32
  | 0 => sg
  | n + 1 => up2 (boat0 sg n) (18 + 2 * n) 1 0
theorem boat0_o {sg : Nat → Nat → Int32} {d k : Nat} (h : d < 18 ∨ k ≠ 1) : ∀ n, boat0 sg n d k = sg d k
  | 0 => rfl
  | n + 1 => by rw [boat0, up2_ne (by omega), boat0_o h n]
theorem s7_callBoatsHome {M : gMem} {o n : Nat} {sg : Nat → Nat → Int32} (L : LC o M) (h : sg 0 2 = nI n) (hn : n ≤ 8) : f_X7_callBoatsHome (sC o sg M) o = some ((), sC o (boat0 sg n) M) := by
  unfold f_X7_callBoatsHome b_X7_callBoatsHome_0 lp_X7_callBoatsHome_2
  refine lp_seq (fun j => (sC o (boat0 sg j) M, nI j)) 0 n (by omega) (fun j _ hj => ?_) ?_
  · simp (disch := first | assumption | omega) [bb_X7_callBoatsHome_2, lit, nI_leI, nI_ltI, ck_T, ck_t, dr_S, lw_S, bd_S, oI_S, inbN, nI_clamp, nI_add, sC_I0, sC_I, sC_W0, sC_W, boat0_o, h, cT0, cR0_6, cT1, cL1, cRrg, cTg, boat0, Nat.not_le.mpr hj]
  · simp (disch := first | assumption | omega) [bb_X7_callBoatsHome_2, lit, nI_leI, nI_ltI, ck_T, ck_t, dr_S, lw_S, bd_S, oI_S, inbN, nI_clamp, nI_add, sC_I0, sC_I, sC_W0, sC_W, boat0_o, h, cT0]
def sumN (f : Nat → Int32) : Nat → Int32
  | 0 => 0
  | n + 1 => sumN f n + f n
theorem sC_Ig {o d : Nat} {sg : Nat → Nat → Int32} {M : gMem} (h : d < 86) : mI (sC o sg M) (o + d) = sg d := funext fun k => sC_I h
theorem s_gFish {M : gMem} {o i : Nat} {sg : Nat → Nat → Int32} (L : LC o M) (hi : i < 8) : f_X3_allFish (sC o sg M) (o + (18 + 2 * i)) = some (sum5 (sg (19 + 2 * i)) 5, sC o sg M) := by
  have h := s_allFish (M := sC o sg M) (g := o + (18 + 2 * i)) (af := o + (19 + 2 * i)) (cTg L hi) (cRg L hi) (cTgf L hi) (cLgf L hi)
  rw [sC_Ig (by omega)] at h
  exact h
theorem s7_forget {M : gMem} {o : Nat} {sg : Nat → Nat → Int32} (L : LC o M) : f_X7_forget (sC o sg M) o = some ((), sC o (up2 (up2 (up2 (up2 (up2 sg 0 2 0) 0 3 0) 0 4 0) 0 5 0) 5 0 0) M) := by
  unfold f_X7_forget b_X7_forget_0
  simp (disch := first | assumption | omega) [lit, nI_leI, nI_ltI, ck_T, ck_t, dr_S, lw_S, bd_S, oI_S, inbN, nI_clamp, nI_add, sC_I0, sC_I, sC_W0, sC_W, cT0, cR0_10, cT5]

theorem s7_allFish {M : gMem} {o n : Nat} {sg : Nat → Nat → Int32} (L : LC o M) (h : sg 0 2 = nI n) (hn : n ≤ 8) : f_X7_allFish (sC o sg M) o = some (sumN (fun i => sum5 (sg (19 + 2 * i)) 5) n, sC o sg M) := by
  unfold f_X7_allFish b_X7_allFish_0 lp_X7_allFish_4
  refine lp_seq (fun j => (sC o sg M, sumN (fun i => sum5 (sg (19 + 2 * i)) 5) j, nI j)) 0 n (by omega) (fun j _ hj => ?_) ?_
  · simp (disch := first | assumption | omega) [bb_X7_allFish_4, lit, nI_leI, nI_ltI, ck_T, ck_t, dr_S, lw_S, bd_S, oI_S, inbN, nI_clamp, nI_add, sC_I0, sC_I, sC_W0, sC_W, h, cT0, cR0_6, cT1, cL1, cRrg, cTg, sumN, Nat.not_le.mpr hj, s_gFish]
  · simp (disch := first | assumption | omega) [bb_X7_allFish_4, lit, nI_leI, nI_ltI, ck_T, ck_t, dr_S, lw_S, bd_S, oI_S, inbN, nI_clamp, nI_add, sC_I0, sC_I, sC_W0, sC_W, h, cT0]
theorem s7_allStores {M : gMem} {o n : Nat} {sg : Nat → Nat → Int32} (L : LC o M) (h : sg 0 3 = nI n) (hn : n ≤ 8) : f_X7_allStores (sC o sg M) o = some (sumN (fun i => sg (34 + 2 * i) 4) n, sC o sg M) := by
  unfold f_X7_allStores b_X7_allStores_0 lp_X7_allStores_4
  refine lp_seq (fun j => (sC o sg M, sumN (fun i => sg (34 + 2 * i) 4) j, nI j)) 0 n (by omega) (fun j _ hj => ?_) ?_
  · simp (disch := first | assumption | omega) [bb_X7_allStores_4, lit, nI_leI, nI_ltI, ck_T, ck_t, dr_S, lw_S, bd_S, oI_S, inbN, nI_clamp, nI_add, sC_I0, sC_I, sC_W0, sC_W, h, cT0, cR0_7, cT2, cL2, cRrf, cTf, sumN, Nat.not_le.mpr hj, h]
  · simp (disch := first | assumption | omega) [bb_X7_allStores_4, lit, nI_leI, nI_ltI, ck_T, ck_t, dr_S, lw_S, bd_S, oI_S, inbN, nI_clamp, nI_add, sC_I0, sC_I, sC_W0, sC_W, h, cT0]
theorem s7_widenedNets {M : gMem} {o n : Nat} {sg : Nat → Nat → Int32} (L : LC o M) (h : sg 0 3 = nI n) (hn : n ≤ 8) : f_X7_widenedNets (sC o sg M) o = some (sumN (fun i => if sg (34 + 2 * i) 1 ≤ sg (34 + 2 * i) 0 then (0 : Int32) else 1) n, sC o sg M) := by
  unfold f_X7_widenedNets b_X7_widenedNets_0 lp_X7_widenedNets_4
  refine lp_seq (fun j => (sC o sg M, sumN (fun i => if sg (34 + 2 * i) 1 ≤ sg (34 + 2 * i) 0 then (0 : Int32) else 1) j, nI j)) 0 n (by omega) (fun j _ hj => ?_) ?_
  · by_cases hc : sg (34 + 2 * j) 1 ≤ sg (34 + 2 * j) 0
    · simp (disch := first | assumption | omega) [bb_X7_widenedNets_4, lit, nI_leI, nI_ltI, ck_T, ck_t, dr_S, lw_S, bd_S, oI_S, inbN, nI_clamp, nI_add, sC_I0, sC_I, sC_W0, sC_W, h, cT0, cR0_7, cT2, cL2, cRrf, cTf, sumN, Nat.not_le.mpr hj, b_X7_widenedNets_39, hc]
    · simp (disch := first | assumption | omega) [bb_X7_widenedNets_4, lit, nI_leI, nI_ltI, ck_T, ck_t, dr_S, lw_S, bd_S, oI_S, inbN, nI_clamp, nI_add, sC_I0, sC_I, sC_W0, sC_W, h, cT0, cR0_7, cT2, cL2, cRrf, cTf, sumN, Nat.not_le.mpr hj, b_X7_widenedNets_39, hc]
  · simp (disch := first | assumption | omega) [bb_X7_widenedNets_4, lit, nI_leI, nI_ltI, ck_T, ck_t, dr_S, lw_S, bd_S, oI_S, inbN, nI_clamp, nI_add, sC_I0, sC_I, sC_W0, sC_W, h, cT0]
theorem s7_allCheats {M : gMem} {o n : Nat} {sg : Nat → Nat → Int32} (L : LC o M) (h : sg 0 3 = nI n) (hn : n ≤ 8) : f_X7_allCheats (sC o sg M) o = some (sumN (fun i => if sg (34 + 2 * i) 9 = nI 0 then (0 : Int32) else 1) n, sC o sg M) := by
  unfold f_X7_allCheats b_X7_allCheats_0 lp_X7_allCheats_4
  refine lp_seq (fun j => (sC o sg M, sumN (fun i => if sg (34 + 2 * i) 9 = nI 0 then (0 : Int32) else 1) j, nI j)) 0 n (by omega) (fun j _ hj => ?_) ?_
  · by_cases hc : sg (34 + 2 * j) 9 = nI 0
    · simp (disch := first | assumption | omega) [bb_X7_allCheats_4, lit, nI_leI, nI_ltI, ck_T, ck_t, dr_S, lw_S, bd_S, oI_S, inbN, nI_clamp, nI_add, sC_I0, sC_I, sC_W0, sC_W, h, cT0, cR0_7, cT2, cL2, cRrf, cTf, sumN, Nat.not_le.mpr hj, b_X7_allCheats_30, hc]
    · simp (disch := first | assumption | omega) [bb_X7_allCheats_4, lit, nI_leI, nI_ltI, ck_T, ck_t, dr_S, lw_S, bd_S, oI_S, inbN, nI_clamp, nI_add, sC_I0, sC_I, sC_W0, sC_W, h, cT0, cR0_7, cT2, cL2, cRrf, cTf, sumN, Nat.not_le.mpr hj, b_X7_allCheats_30, hc]
  · simp (disch := first | assumption | omega) [bb_X7_allCheats_4, lit, nI_leI, nI_ltI, ck_T, ck_t, dr_S, lw_S, bd_S, oI_S, inbN, nI_clamp, nI_add, sC_I0, sC_I, sC_W0, sC_W, h, cT0]
/-- the smallest and the largest of the first n + 1 -/
def minN (f : Nat → Int32) : Nat → Int32
  | 0 => f 0
  | n + 1 => imin (minN f n) (f (n + 1))
def maxN (f : Nat → Int32) : Nat → Int32
  | 0 => f 0
  | n + 1 => imax (maxN f n) (f (n + 1))
theorem s7_storeGap0 {M : gMem} {o : Nat} {sg : Nat → Nat → Int32} (L : LC o M) (h : sg 0 3 = nI 0) : f_X7_storeGap (sC o sg M) o = some (0, sC o sg M) := by
  unfold f_X7_storeGap b_X7_storeGap_0
  simp (disch := first | assumption | omega) [lit, nI_leI, nI_ltI, ck_T, ck_t, dr_S, lw_S, bd_S, oI_S, inbN, nI_clamp, nI_add, sC_I0, sC_I, sC_W0, sC_W, h, cT0]
theorem s7_storeGap {M : gMem} {o n : Nat} {sg : Nat → Nat → Int32} (L : LC o M) (h : sg 0 3 = nI (n + 1)) (hn : n < 8) : f_X7_storeGap (sC o sg M) o = some (maxN (fun i => sg (34 + 2 * i) 4) n - minN (fun i => sg (34 + 2 * i) 4) n, sC o sg M) := by
  have key : lp_X7_storeGap_23 (sC o sg M) o (sg 34 4) (sg 34 4) (nI 1) = some (maxN (fun i => sg (34 + 2 * i) 4) n - minN (fun i => sg (34 + 2 * i) 4) n, sC o sg M) := by
    unfold lp_X7_storeGap_23
    refine lp_seq (fun j => (sC o sg M, minN (fun i => sg (34 + 2 * i) 4) j, maxN (fun i => sg (34 + 2 * i) 4) j, nI (j + 1))) 0 n (by omega) (fun j _ hj => ?_) ?_
    · simp (disch := first | assumption | omega) [bb_X7_storeGap_23, lit, nI_leI, nI_ltI, ck_T, ck_t, dr_S, lw_S, bd_S, oI_S, inbN, nI_clamp, nI_add, sC_I0, sC_I, sC_W0, sC_W, h, cT0, cR0_7, cT2, cL2, cRrf, cTf, minN, maxN, Nat.not_le.mpr hj]
    · simp (disch := first | assumption | omega) [bb_X7_storeGap_23, lit, nI_leI, nI_ltI, ck_T, ck_t, dr_S, lw_S, bd_S, oI_S, inbN, nI_clamp, nI_add, sC_I0, sC_I, sC_W0, sC_W, h, cT0]
  unfold f_X7_storeGap b_X7_storeGap_0
  have e := cRrf (sg := sg) L (k := 0) (by omega)
  have e2 := cTf (sg := sg) L (i := 0) (by omega)
  simp (disch := first | assumption | omega) [lit, nI_leI, nI_ltI, ck_T, ck_t, dr_S, lw_S, bd_S, oI_S, inbN, nI_clamp, nI_add, sC_I0, sC_I, sC_W0, sC_W, h, cT0, cR0_7, cT2, cL2, e, e2, key, nI_eq]

