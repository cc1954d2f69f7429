theorem nI_mul (a b : Nat) : nI a * nI b = nI (a * b) := (Int32.ofNat_mul a b).symm
theorem nI_sub {a b : Nat} (h : b ≤ a) : nI a - nI b = nI (a - b) := by
  have : nI a = nI (a - b) + nI b := by rw [nI_add, Nat.sub_add_cancel h]
  rw [this, Int32.add_sub_cancel]
theorem nI_div {a b : Nat} (ha : a < 2 ^ 31) (hb : b < 2 ^ 31) : nI a / nI b = nI (a / b) := by
  rw [← Int32.toInt_inj, Int32.toInt_div, nI_toInt ha, nI_toInt hb, nI_toInt (Nat.lt_of_le_of_lt (Nat.div_le_self a b) ha)]
  rw [← Int.ofNat_tdiv]
  have := Nat.lt_of_le_of_lt (Nat.div_le_self a b) ha
  generalize a / b = c at this
  rw [Int.bmod_def]
  split <;> omega
theorem nI_rem {a b : Nat} (ha : a < 2 ^ 31) (hb : b < 2 ^ 31) : nI a - nI a / nI b * nI b = nI (a % b) := by
  rw [nI_div ha hb, nI_mul, nI_sub (Nat.div_mul_le_self a b)]
  congr 1
  have := Nat.div_add_mod a b
  rw [Nat.mul_comm] at this
  omega
theorem ushr16 (y : Int32) : ∃ m, m < 65536 ∧ ushr y (nI 16) = nI m := by
  refine ⟨y.toUInt32.toNat / 65536, ?_, ?_⟩
  · have := y.toUInt32.toNat_lt
    omega
  · have := y.toUInt32.toNat_lt
    unfold ushr
    have e : (nI 16).toUInt32 &&& Int32.toUInt32 31 = 16 := by decide
    rw [e]
    have e2 : y.toUInt32 >>> 16 = UInt32.ofNat (y.toUInt32.toNat / 65536) := by
      apply UInt32.toNat_inj.1
      simp [Nat.shiftRight_eq_div_pow]
      omega
    rw [e2]
    rfl
/-- the place that a lot is drawn from, of k + 1 in the row -/
def drP (y : Int32) (k : Nat) : Nat := (ushr y (nI 16) - ushr y (nI 16) / nI k * nI k).toNatClampNeg
theorem drP_e {y : Int32} {k : Nat} (hk : k < 2 ^ 31) : ushr y (nI 16) - ushr y (nI 16) / nI k * nI k = nI (drP y k) := by
  obtain ⟨m, hm, e⟩ := ushr16 y
  unfold drP
  rw [e, nI_rem (by omega) hk, nI_clamp (Nat.lt_of_le_of_lt (Nat.mod_le m k) (by omega))]
theorem drP_lt {y : Int32} {k : Nat} (h : 0 < k) (hk : k < 2 ^ 31) : drP y k < k := by
  obtain ⟨m, hm, e⟩ := ushr16 y
  unfold drP
  rw [e, nI_rem (by omega) hk, nI_clamp (Nat.lt_of_le_of_lt (Nat.mod_le m k) (by omega))]
  exact Nat.mod_lt _ h
/-- the row from p on moves down by one, below k -/
def shD (f : Nat → Int32) (p k : Nat) : Nat → Int32 := fun i => if p ≤ i ∧ i + 1 < k then f (i + 1) else f i
def row0 (sg : Nat → Nat → Int32) (n : Nat) : Nat → Nat → Int32 := up1 sg 10 (fun k => if k < n then nI k else sg 10 k)
def drN (y : Int32) : Int32 := y * nI 69069 + nI 1
/-- j lots drawn of n: the ints and the number -/
def drS (sg : Nat → Nat → Int32) (n : Nat) (x : Int32) : Nat → (Nat → Nat → Int32) × Int32
  | 0 => (row0 sg n, x)
  | j + 1 => (up1 (up2 (drS sg n x j).1 9 j ((drS sg n x j).1 10 (drP (drN (drS sg n x j).2) (n - j)))) 10 (shD ((drS sg n x j).1 10) (drP (drN (drS sg n x j).2) (n - j)) (n - j)), drN (drS sg n x j).2)
theorem drS_o {sg : Nat → Nat → Int32} {n d : Nat} {x : Int32} (h : d ≠ 9 ∧ d ≠ 10) : ∀ j, (drS sg n x j).1 d = sg d
  | 0 => by simp [drS, row0, up1, h.2]
  | j + 1 => by
    have := drS_o (sg := sg) (n := n) (x := x) h j
    funext k
    simp [drS, up1, up2, h.1, h.2, this]
theorem up2_up1 (sg : Nat → Nat → Int32) (a k : Nat) (v : Int32) : up2 sg a k v = up1 sg a (up1 (sg a) k v) := by
  funext b j
  by_cases hb : b = a
  · subst hb; simp [up1, up2]
  · simp [up1, up2, hb]
theorem up1_up1 {α : Type} (f : Nat → α) (a : Nat) (v w : α) : up1 (up1 f a v) a w = up1 f a w := by
  funext b
  by_cases hb : b = a
  · subst hb; simp [up1]
  · simp [up1, hb]
theorem s7_shift {M : gMem} {o p k : Nat} {y : Int32} {sg : Nat → Nat → Int32} (L : LC o M) (hk : k ≤ 8) (hp : p < k) : lp_X7_drawLots_71 (sC o sg M) o y (nI k) (nI p) = some (.inl (sC o (up1 sg 10 (shD (sg 10) p k)) M, y, nI (k - 1))) := by
  unfold lp_X7_drawLots_71
  have e0 : up1 sg 10 (shD (sg 10) p (p + 1)) = sg := by
    funext b j
    by_cases hb : b = 10
    · subst hb
      have : ¬ (p ≤ j ∧ j + 1 < p + 1) := by omega
      rw [up1_e]
      exact if_neg this
    · simp [up1, hb]
  have e1 : k - 1 + 1 = k := by omega
  have := lp_seq (f := fun (q : gMem × Int32) => bb_X7_drawLots_71 q.1 o y (nI k) q.2) (fun j => (sC o (up1 sg 10 (shD (sg 10) p (j + 1))) M, nI j)) p (k - 1) (b := .inl (sC o (up1 sg 10 (shD (sg 10) p k)) M, y, nI (k - 1))) (by omega) (fun j h1 hj => ?_) ?_
  · simpa only [e0] using this
  · have e2 : up2 (up1 sg 10 (shD (sg 10) p (j + 1))) 10 j (up1 sg 10 (shD (sg 10) p (j + 1)) 10 (j + 1)) = up1 sg 10 (shD (sg 10) p (j + 1 + 1)) := by
      rw [up2_up1, up1_up1, up1_e]
      congr 1
      funext i
      by_cases hi : i = j
      · subst hi
        have : ¬ (p ≤ i + 1 ∧ i + 1 + 1 < i + 1) := by omega
        have h3 : p ≤ i ∧ i + 1 < i + 1 + 1 := by omega
        rw [up1_e]
        simp only [up1_e, shD, if_pos h3, if_neg this]
      · by_cases h3 : p ≤ i ∧ i + 1 < j + 1
        · have h4 : p ≤ i ∧ i + 1 < j + 1 + 1 := by omega
          simp only [up1, shD, hi, if_false, if_pos h3, if_pos h4]
        · have h4 : ¬ (p ≤ i ∧ i + 1 < j + 1 + 1) := by omega
          simp only [up1, shD, hi, if_false, if_neg h3, if_neg h4]
    have e3 : ¬ k ≤ j + 1 := by omega
    simp (disch := first | assumption | omega) [bb_X7_drawLots_71, lit, nI_leI, ck_T, ck_t, dr_S, lw_S, oI_S, inbN, nI_clamp, nI_add, sC_I0, sC_I, sC_W, cT0, cR0_12, cT10, cL10, e2, e3]
  · have e3 : k ≤ k - 1 + 1 := by omega
    simp (disch := first | assumption | omega) [bb_X7_drawLots_71, lit, nI_leI, ck_T, ck_t, dr_S, lw_S, oI_S, inbN, nI_clamp, nI_add, nI_dn, e1, e3]
theorem s7_drawLots {M : gMem} {o n : Nat} {sg : Nat → Nat → Int32} (L : LC o M) (h : sg 0 3 = nI n) (hn : n ≤ 8) : f_X7_drawLots (sC o sg M) o = some ((drS sg n (sg 0 1) n).2, sC o (drS sg n (sg 0 1) n).1 M) := by
  have k2 : lp_X7_drawLots_33 (sC o (row0 sg n) M) o (sg 0 1) (nI n) = some ((drS sg n (sg 0 1) n).2, sC o (drS sg n (sg 0 1) n).1 M) := by
    unfold lp_X7_drawLots_33
    refine lp_seq (fun j => (sC o (drS sg n (sg 0 1) j).1 M, (drS sg n (sg 0 1) j).2, nI (n - j))) 0 n (by omega) (fun j _ hj => ?_) ?_
    · have ho : (drS sg n (sg 0 1) j).1 0 3 = nI n := by rw [drS_o (by omega), h]
      have hp := drP_lt (y := drN (drS sg n (sg 0 1) j).2) (k := n - j) (by omega) (by omega)
      have hs := s7_shift (M := M) (o := o) (p := drP (drN (drS sg n (sg 0 1) j).2) (n - j)) (k := n - j) (y := drN (drS sg n (sg 0 1) j).2) (sg := up2 (drS sg n (sg 0 1) j).1 9 j ((drS sg n (sg 0 1) j).1 10 (drP (drN (drS sg n (sg 0 1) j).2) (n - j)))) L (by omega) hp
      have e4 : up2 (drS sg n (sg 0 1) j).1 9 j ((drS sg n (sg 0 1) j).1 10 (drP (drN (drS sg n (sg 0 1) j).2) (n - j))) 10 = (drS sg n (sg 0 1) j).1 10 := by funext i; exact up2_ne (by omega)
      rw [e4] at hs
      have e5 : n - (n - j) = j := by omega
      have e6 : ¬ n ≤ j := by omega
      have ed : drN (drS sg n (sg 0 1) j).2 = (drS sg n (sg 0 1) j).2 * nI 69069 + nI 1 := rfl
      have e7 := drP_e (y := drN (drS sg n (sg 0 1) j).2) (k := n - j) (by omega)
      have e8 : n - j - 1 = n - (j + 1) := by omega
      rw [e8] at hs
      show bb_X7_drawLots_33 (sC o (drS sg n (sg 0 1) j).1 M) o (drS sg n (sg 0 1) j).2 (nI (n - j)) = _
      simp (disch := first | assumption | omega) only [bb_X7_drawLots_33, lit, ← ed, e7, nI_leI, if_neg, ck_T, ck_t, dr_S, lw_S, inbN, nI_clamp, nI_sub, ho, sC_I0, sC_I, sC_W, cT0, cR0_12, cT10, cL10, cR0_11, cT9, cL9, e5]
      have e9 : ¬ nI (n - j) = nI 0 := nI_ne0 (by omega) (by omega)
      rw [ck_t e9, hs]
      rfl
    · simp (disch := first | assumption | omega) [bb_X7_drawLots_33, lit, nI_leI, ck_T, ck_t, oI_S]
  have e0 : row0 sg 0 = sg := by
    funext b j
    by_cases hb : b = 10
    · subst hb; simp [row0, up1]
    · simp [row0, up1, hb]
  have eo : ∀ j, row0 sg j 0 = sg 0 := fun j => by funext k; simp [row0, up1]
  have k1 : lp_X7_drawLots_7 (sC o sg M) o (sg 0 1) (nI 0) = some ((drS sg n (sg 0 1) n).2, sC o (drS sg n (sg 0 1) n).1 M) := by
    unfold lp_X7_drawLots_7
    have := lp_seq (f := fun (q : gMem × Int32) => bb_X7_drawLots_7 q.1 o (sg 0 1) q.2) (fun j => (sC o (row0 sg j) M, nI j)) 0 n (b := ((drS sg n (sg 0 1) n).2, sC o (drS sg n (sg 0 1) n).1 M)) (by omega) (fun j h1 hj => ?_) ?_
    · simpa only [e0] using this
    · have e2 : up2 (row0 sg j) 10 j (nI j) = row0 sg (j + 1) := by
        rw [up2_up1]
        unfold row0
        rw [up1_up1, up1_e]
        congr 1
        funext i
        by_cases hi : i = j
        · subst hi
          rw [up1_e, if_pos (by omega)]
        · rw [up1_o hi]
          by_cases h3 : i < j
          · rw [if_pos h3, if_pos (by omega)]
          · rw [if_neg h3, if_neg (by omega)]
      simp (disch := first | assumption | omega) [bb_X7_drawLots_7, lit, nI_leI, ck_T, ck_t, dr_S, lw_S, inbN, nI_clamp, nI_add, eo, h, sC_I0, sC_W, cT0, cR0_12, cT10, cL10, e2, Nat.not_le.mpr hj]
    · simp (disch := first | assumption | omega) [bb_X7_drawLots_7, lit, nI_leI, ck_T, ck_t, oI_S, eo, h, sC_I0, cT0, k2]
  unfold f_X7_drawLots b_X7_drawLots_0
  rw [ck_t (cT0 L), sC_I0]
  exact k1

