/-! ## Pure: the reader's steps in memory -/
def cn (M : gMem) (a k : Nat) : Nat := (mI M a k).toNatClampNeg
def kwM (r p x k : Nat) (M : gMem) : gMem := if 0 ≤ fnd M x (mJ M (p + 4) k) then wI M r 8 (fnd M x (mJ M (p + 4) k)) else wI (ntM r p 3 k (wI M r 8 (fnd M x (mJ M (p + 4) k)))) r 8 0
def nwM (r p x k : Nat) (M : gMem) : gMem := if fnd M x (mJ M (p + 4) k) < 0 then (if cn M x 1 < cap r x then wI (wJ M (x + 1) (cn M x 1) (mJ M (p + 4) k)) x 1 (nI (cn M x 1 + 1)) else ntM r p 4 k M) else ntM r p 2 k M
def nbM (r p : Nat) (lo hi : Int32) (k : Nat) (M : gMem) : gMem := if Int64.toInt32 (mJ M (p + 4) k) < lo ∨ hi < Int64.toInt32 (mJ M (p + 4) k) then ntM r p 5 k (wI M r 8 (Int64.toInt32 (mJ M (p + 4) k))) else wI M r 8 (Int64.toInt32 (mJ M (p + 4) k))
def adM (Z : Nat → Nat) (o c : Nat) (v : Int32) (M : gMem) : gMem := if cn M (o + 5) 0 < 400 then wI (wI (wR M (o + 6) (cn M (o + 5) 0) (some (Z c))) (o + 7) (cn M (o + 5) 0) v) (o + 5) 0 (nI (cn M (o + 5) 0 + 1)) else M
def ngM (o : Nat) (M : gMem) : gMem := cpS sG (o + (18 + 2 * min (cn M o 2) 7)) (o + 12) (wI M o 2 (nI (min (cn M o 2 + 1) 8)))
def nfM (o : Nat) (M : gMem) : gMem := cpS sF (o + (34 + 2 * min (cn M o 3) 7)) (o + 14) (wI M o 3 (nI (min (cn M o 3 + 1) 8)))
def noM (o : Nat) (M : gMem) : gMem := wI M o 4 (nI (min (cn M o 4 + 1) 24))
def npM (o : Nat) (M : gMem) : gMem := cpS sP (o + (74 + 2 * min (cn M o 5) 5)) (o + 16) (wI M o 5 (nI (min (cn M o 5 + 1) 6)))
def paM (a : Nat) (v : Int32) (M : gMem) : gMem := if cn M a 3 < 8 then wI (wI M (a + 1) (cn M a 3) v) a 3 (nI (cn M a 3 + 1)) else M
theorem cn_e {M : gMem} {a k n : Nat} (h : mI M a k = nI n) (hn : n < 2 ^ 31) : cn M a k = n := by unfold cn; rw [h, nI_clamp hn]
theorem imin_s {a n : Nat} (ha : a < 2 ^ 30) (hn : n < 2 ^ 30) : imin (nI a + 1) (nI n) = nI (min (a + 1) n) := by
  rw [nI_1, imin_nI (by omega) (by omega)]
theorem nt_g {r p k : Nat} {e : Int32} {M : gMem} : mT (ntM r p e k M) = mT M ∧ mL (ntM r p e k M) = mL M ∧ mR (ntM r p e k M) = mR M ∧ mJ (ntM r p e k M) = mJ M ∧ ∀ a j, (a ≠ r ∨ (j ≠ 7 ∧ j ≠ 0)) → mI (ntM r p e k M) a j = mI M a j := by
  unfold ntM
  split
  · exact ⟨rfl, rfl, rfl, rfl, fun a j h => by rw [wI_o (by omega), wI_o (by omega)]⟩
  · exact ⟨rfl, rfl, rfl, rfl, fun a j h => rfl⟩
theorem c_nextG {o a : Nat} {M : gMem} (L : LC o M) (ha : a ≤ 8) (h : mI M o 2 = nI a) : f_X7_nextGround M o = some (some (o + (18 + 2 * min a 7)), ngM o M) := by
  have hc : cn M o 2 = a := cn_e h (by omega)
  have q1 : inb (nI (min a 7)) 8 := (inbN (by omega)).mpr (by omega)
  have e2 : nI (min (a + 1) 8) - 1 = nI (min a 7) := by rw [show (1 : Int32) = nI 1 from rfl, nI_sub (by omega)]; congr 1; omega
  unfold f_X7_nextGround b_X7_nextGround_0 ngM
  rw [hc, ck_t (show mT M o = 7 from cT0 (sg := mI M) L), lw_S, h, show (8 : Int32) = nI 8 from rfl, imin_s (by omega) (by omega)]
  have e1 : mI (wI M o 2 (nI (min (a + 1) 8))) o 2 = nI (min (a + 1) 8) := wI_e _ _ _ _
  have L1 : LC o (wI M o 2 (nI (min (a + 1) 8))) := L
  generalize wI M o 2 (nI (min (a + 1) 8)) = M1 at e1 L1
  have hi : min a 7 < 8 := by omega
  rw [e1, e2, show mR M1 o 6 = some (o + 1) from cR0_6 (sg := mI M1) L1, dr_S, ck_t (show mT M1 (o + 1) = 23 from cT1 (sg := mI M1) L1), show mL M1 (o + 1) = 8 from cL1 (sg := mI M1) L1, ck_t q1, nI_clamp (by omega), show mR M1 (o + 1) (min a 7) = some (o + (18 + 2 * min a 7)) from cRrg (sg := mI M1) L1 hi, dr_S, ck_t (show mT M1 (o + (18 + 2 * min a 7)) = 3 from cTg (sg := mI M1) L1 hi), show mR M1 o 14 = some (o + 12) from cR0_14 (sg := mI M1) L1]
  have e19 : o + (18 + 2 * min a 7) + 1 = o + (19 + 2 * min a 7) := by omega
  rw [bd_s (s3_copy (M := M1) (a := o + (18 + 2 * min a 7)) (b := o + 12) (by omega) (show mT M1 _ = 3 from cTg (sg := mI M1) L1 hi) (show mT M1 _ = 3 from cT12 (sg := mI M1) L1) (by rw [e19]; exact cRg (sg := mI M1) L1 hi) (show mR M1 _ 3 = _ from cR12_3 (sg := mI M1) L1) (by rw [e19]; exact cTgf (sg := mI M1) L1 hi) (show mT M1 _ = 20 from cT13 (sg := mI M1) L1) (by rw [e19]; exact cLgf (sg := mI M1) L1 hi) (show mL M1 _ = 6 from cL13 (sg := mI M1) L1))]
theorem c_nextF {o a : Nat} {M : gMem} (L : LC o M) (ha : a ≤ 8) (h : mI M o 3 = nI a) (h9 : mI M (o + 14) 9 = 0) : f_X7_nextFisher M o = some (some (o + (34 + 2 * min a 7)), nfM o M) := by
  have hc : cn M o 3 = a := cn_e h (by omega)
  have q1 : inb (nI (min a 7)) 8 := (inbN (by omega)).mpr (by omega)
  have e2 : nI (min (a + 1) 8) - 1 = nI (min a 7) := by rw [show (1 : Int32) = nI 1 from rfl, nI_sub (by omega)]; congr 1; omega
  unfold f_X7_nextFisher b_X7_nextFisher_0 nfM
  rw [hc, ck_t (show mT M o = 7 from cT0 (sg := mI M) L), lw_S, h, show (8 : Int32) = nI 8 from rfl, imin_s (by omega) (by omega)]
  have e1 : mI (wI M o 3 (nI (min (a + 1) 8))) o 3 = nI (min (a + 1) 8) := wI_e _ _ _ _
  have e9 : mI (wI M o 3 (nI (min (a + 1) 8))) (o + 14) 9 = 0 := by rw [wI_o (by omega)]; exact h9
  have L1 : LC o (wI M o 3 (nI (min (a + 1) 8))) := L
  generalize wI M o 3 (nI (min (a + 1) 8)) = M1 at e1 L1 e9
  have hi : min a 7 < 8 := by omega
  rw [e1, e2, show mR M1 o 7 = some (o + 2) from cR0_7 (sg := mI M1) L1, dr_S, ck_t (show mT M1 (o + 2) = 24 from cT2 (sg := mI M1) L1), show mL M1 (o + 2) = 8 from cL2 (sg := mI M1) L1, ck_t q1, nI_clamp (by omega), show mR M1 (o + 2) (min a 7) = some (o + (34 + 2 * min a 7)) from cRrf (sg := mI M1) L1 hi, dr_S, ck_t (show mT M1 (o + (34 + 2 * min a 7)) = 1 from cTf (sg := mI M1) L1 hi), show mR M1 o 15 = some (o + 14) from cR0_15 (sg := mI M1) L1]
  have e19 : o + (34 + 2 * min a 7) + 1 = o + (35 + 2 * min a 7) := by omega
  rw [bd_s (s1_copy (M := M1) (a := o + (34 + 2 * min a 7)) (b := o + 14) (by omega) (show mT M1 _ = 1 from cTf (sg := mI M1) L1 hi) (show mT M1 _ = 1 from cT14 (sg := mI M1) L1) (by rw [e19]; exact cRf (sg := mI M1) L1 hi) (show mR M1 _ 10 = _ from cR14_10 (sg := mI M1) L1) (by rw [e19]; exact cTft (sg := mI M1) L1 hi) (show mT M1 _ = 20 from cT15 (sg := mI M1) L1) (by rw [e19]; exact cLft (sg := mI M1) L1 hi) (show mL M1 _ = 8 from cL15 (sg := mI M1) L1) (.inl e9))]
theorem c_nextP {o a : Nat} {M : gMem} (L : LC o M) (ha : a ≤ 6) (h : mI M o 5 = nI a) : f_X7_nextPact M o = some (some (o + (74 + 2 * min a 5)), npM o M) := by
  have hc : cn M o 5 = a := cn_e h (by omega)
  have q1 : inb (nI (min a 5)) 6 := (inbN (by omega)).mpr (by omega)
  have e2 : nI (min (a + 1) 6) - 1 = nI (min a 5) := by rw [show (1 : Int32) = nI 1 from rfl, nI_sub (by omega)]; congr 1; omega
  unfold f_X7_nextPact b_X7_nextPact_0 npM
  rw [hc, ck_t (show mT M o = 7 from cT0 (sg := mI M) L), lw_S, h, show (6 : Int32) = nI 6 from rfl, imin_s (by omega) (by omega)]
  have e1 : mI (wI M o 5 (nI (min (a + 1) 6))) o 5 = nI (min (a + 1) 6) := wI_e _ _ _ _
  have L1 : LC o (wI M o 5 (nI (min (a + 1) 6))) := L
  generalize wI M o 5 (nI (min (a + 1) 6)) = M1 at e1 L1
  have hi : min a 5 < 6 := by omega
  rw [e1, e2, show mR M1 o 9 = some (o + 4) from cR0_9 (sg := mI M1) L1, dr_S, ck_t (show mT M1 (o + 4) = 26 from cT4 (sg := mI M1) L1), show mL M1 (o + 4) = 6 from cL4 (sg := mI M1) L1, ck_t q1, nI_clamp (by omega), show mR M1 (o + 4) (min a 5) = some (o + (74 + 2 * min a 5)) from cRrp (sg := mI M1) L1 hi, dr_S, ck_t (show mT M1 (o + (74 + 2 * min a 5)) = 5 from cTp (sg := mI M1) L1 hi), show mR M1 o 16 = some (o + 16) from cR0_16 (sg := mI M1) L1]
  have e19 : o + (74 + 2 * min a 5) + 1 = o + (75 + 2 * min a 5) := by omega
  rw [bd_s (s5_copy (M := M1) (a := o + (74 + 2 * min a 5)) (b := o + 16) (by omega) (show mT M1 _ = 5 from cTp (sg := mI M1) L1 hi) (show mT M1 _ = 5 from cT16 (sg := mI M1) L1) (by rw [e19]; exact cRp (sg := mI M1) L1 hi) (show mR M1 _ 4 = _ from cR16_4 (sg := mI M1) L1) (by rw [e19]; exact cTpf (sg := mI M1) L1 hi) (show mT M1 _ = 20 from cT17 (sg := mI M1) L1) (by rw [e19]; exact cLpf (sg := mI M1) L1 hi) (show mL M1 _ = 8 from cL17 (sg := mI M1) L1))]
theorem c_nextO {o a : Nat} {M : gMem} (L : LC o M) (ha : a ≤ 24) (h : mI M o 4 = nI a) : f_X7_nextGo M o = some (some (o + (50 + min a 23)), noM o M) := by
  have hc : cn M o 4 = a := cn_e h (by omega)
  have q1 : inb (nI (min a 23)) 24 := (inbN (by omega)).mpr (by omega)
  have e2 : nI (min (a + 1) 24) - 1 = nI (min a 23) := by rw [show (1 : Int32) = nI 1 from rfl, nI_sub (by omega)]; congr 1; omega
  unfold f_X7_nextGo b_X7_nextGo_0 noM
  rw [hc, ck_t (show mT M o = 7 from cT0 (sg := mI M) L), lw_S, h, show (24 : Int32) = nI 24 from rfl, imin_s (by omega) (by omega)]
  have e1 : mI (wI M o 4 (nI (min (a + 1) 24))) o 4 = nI (min (a + 1) 24) := wI_e _ _ _ _
  have L1 : LC o (wI M o 4 (nI (min (a + 1) 24))) := L
  generalize wI M o 4 (nI (min (a + 1) 24)) = M1 at e1 L1
  have hi : min a 23 < 24 := by omega
  rw [e1, e2, show mR M1 o 8 = some (o + 3) from cR0_8 (sg := mI M1) L1, dr_S, ck_t (show mT M1 (o + 3) = 25 from cT3 (sg := mI M1) L1), show mL M1 (o + 3) = 24 from cL3 (sg := mI M1) L1, ck_t q1, nI_clamp (by omega), show mR M1 (o + 3) (min a 23) = some (o + (50 + min a 23)) from cRrgo (sg := mI M1) L1 hi]
theorem c_padd {o i n : Nat} {M : gMem} {v : Int32} (L : LC o M) (hi : i < 6) (hn : n ≤ 8) (h : mI M (o + (74 + 2 * i)) 3 = nI n) : f_X5_add M (o + (74 + 2 * i)) v = some ((), paM (o + (74 + 2 * i)) v M) := by
  have hc : cn M (o + (74 + 2 * i)) 3 = n := cn_e h (by omega)
  have e19 : o + (74 + 2 * i) + 1 = o + (75 + 2 * i) := by omega
  unfold f_X5_add b_X5_add_0 b_X5_add_29 paM
  rw [hc, ck_t (show mT M _ = 5 from cTp (sg := mI M) L hi), h]
  by_cases c : n < 8
  · have q1 : ¬ (8 : Int32) ≤ nI n := fun z => by have := (nI_leI (a := 8) (by omega) (by omega)).mp z; omega
    have q2 : inb (nI n) 8 := (inbN (by omega)).mpr c
    rw [if_neg q1, if_pos c, show mR M (o + (74 + 2 * i)) 4 = some (o + (75 + 2 * i)) from cRp (sg := mI M) L hi, dr_S, ck_t (show mT M (o + (75 + 2 * i)) = 20 from cTpf (sg := mI M) L hi), show mL M (o + (75 + 2 * i)) = 8 from cLpf (sg := mI M) L hi, ck_t q2, lw_S, lw_S, nI_clamp (by omega), e19, wI_o (by omega), h, nI_1]
  · have q1 : (8 : Int32) ≤ nI n := (nI_leI (a := 8) (by omega) (by omega)).mpr (by omega)
    rw [if_pos q1, if_neg c]
theorem c_sadd {Z : Nat → Nat} {o c n : Nat} {M : gMem} {v : Int32} (L : LC o M) (hZ : ∀ a b : Nat, a < 45 → b < 45 → Z a = Z b → a = b) (hc : c < 45) (hn : n ≤ 400) (h : mI M (o + 5) 0 = nI n) : f_X9_add Z M (o + 5) (some (Z c)) v = some ((), adM Z o c v M) := by
  have hcn : cn M (o + 5) 0 = n := cn_e h (by omega)
  unfold f_X9_add b_X9_add_0 b_X9_add_40 adM
  rw [hcn, ck_t (show mT M _ = 8 from cT5 (sg := mI M) L), h]
  by_cases c4 : n < 400
  · have q1 : ¬ (400 : Int32) ≤ nI n := fun z => by have := (nI_leI (a := 400) (by omega) (by omega)).mp z; omega
    have q2 : inb (nI n) 400 := (inbN (by omega)).mpr c4
    rw [if_neg q1, if_pos c4, show mR M (o + 5) 1 = some (o + 6) from cR5_1 (sg := mI M) L, dr_S, ck_t (show mT M (o + 6) = 27 from cT6 (sg := mI M) L), show mL M (o + 6) = 400 from cL6 (sg := mI M) L, ck_t q2, ordZ_e hZ hc, dr_S, lw_S, nI_clamp (by omega)]
    have e1 : mR (wR M (o + 6) n (some (Z c))) (o + 5) 2 = some (o + 7) := by
      show up2 (mR M) (o + 6) n (some (Z c)) (o + 5) 2 = _
      rw [up2_ne (by omega)]
      exact cR5_2 (sg := mI M) L
    have e2 : mI (wR M (o + 6) n (some (Z c))) (o + 5) 0 = nI n := h
    rw [e1, dr_S, ck_t (show mT (wR M (o + 6) n (some (Z c))) (o + 7) = 20 from cT7 (sg := mI M) L), show mL (wR M (o + 6) n (some (Z c))) (o + 7) = 400 from cL7 (sg := mI M) L, e2, ck_t q2, lw_S, nI_clamp (by omega), wI_o (by omega), e2, nI_1, lw_S]
  · have q1 : (400 : Int32) ≤ nI n := (nI_leI (a := 400) (by omega) (by omega)).mpr (by omega)
    rw [if_pos q1, if_neg c4]

