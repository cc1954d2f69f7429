/-! ## Pure: a block of cells; a State of the reference at a, what is told at t -/
def bC (n a : Nat) (st : Nat → Nat → Int32) (M : gMem) : gMem := sI M (fun b k => if a ≤ b ∧ b < a + n then st (b - a) k else mI M b k)
theorem bC_I {n a d k : Nat} {st : Nat → Nat → Int32} {M : gMem} (h : d < n) : mI (bC n a st M) (a + d) k = st d k := sorry

theorem bC_I0 {n a k : Nat} {st : Nat → Nat → Int32} {M : gMem} (h : 0 < n) : mI (bC n a st M) a k = st 0 k := sorry

theorem bC_Io {n a b k : Nat} {st : Nat → Nat → Int32} {M : gMem} (h : b < a ∨ a + n ≤ b) : mI (bC n a st M) b k = mI M b k := sorry

theorem bC_W {n a d k : Nat} {v : Int32} {st : Nat → Nat → Int32} {M : gMem} (h : d < n) : wI (bC n a st M) (a + d) k v = bC n a (up2 st d k v) M := sorry

theorem bC_W0 {n a k : Nat} {v : Int32} {st : Nat → Nat → Int32} {M : gMem} (h : 0 < n) : wI (bC n a st M) a k v = bC n a (up2 st 0 k v) M := sorry

theorem bC_cp {n a d e i j c : Nat} {st : Nat → Nat → Int32} {M : gMem} (hd : d < n) (he : e < n) : cpI (bC n a st M) (a + d) i (a + e) j c = bC n a (up1 st e (va_cpy (st d) (st e) i j c)) M := sorry

theorem bC_cpo {n a b e i j c : Nat} {st : Nat → Nat → Int32} {M : gMem} (hb : b < a ∨ a + n ≤ b) (he : e < n) : cpI (bC n a st M) b i (a + e) j c = bC n a (up1 st e (va_cpy (mI M b) (st e) i j c)) M := sorry

theorem bC_self (n a : Nat) (M : gMem) : bC n a (fun d k => mI M (a + d) k) M = M := sorry

def lenS (j : Nat) : Nat := [0, 40, 8, 64, 8, 8, 8, 8, 8, 8, 6, 6, 6, 8, 8, 6, 400].getD j 0
def lenD (j : Nat) : Nat := [0, 8, 40, 8, 8, 8, 24, 24, 6, 6, 48, 25, 25, 7, 7, 800, 400].getD j 0
def tdR (k : Nat) : Nat := [0, 1, 2, 0, 0, 3, 4, 5, 0, 6, 7, 0, 8, 9, 10, 0, 0, 11, 12, 13, 14, 15, 0, 16, 0].getD k 0
/-- a State at a, of the model at m, whose told stands at t -/
def LSt (m t a : Nat) (M : gMem) : Prop :=
  (mT M a = 11 ∧ mR M a 18 = some m ∧ mT M m = 13 ∧ mR M m 11 = some t ∧ mT M t = 12) ∧ (a + 17 ≤ t ∨ t + 17 ≤ a) ∧
  (∀ j, 1 ≤ j → j < 17 → mT M (a + j) = 20 ∧ mL M (a + j) = lenS j ∧ mR M a (j + 1) = some (a + j)) ∧
  (∀ j, 1 ≤ j → j < 17 → mT M (t + j) = 20 ∧ mL M (t + j) = lenD j) ∧ ∀ k, k < 25 → 0 < tdR k → mR M t k = some (t + tdR k)
theorem q_T {m t a : Nat} {st : Nat → Nat → Int32} {M : gMem} (L : LSt m t a M) : mT (bC 17 a st M) a = 11 := sorry

theorem q_R18 {m t a : Nat} {st : Nat → Nat → Int32} {M : gMem} (L : LSt m t a M) : mR (bC 17 a st M) a 18 = some m := sorry

theorem q_Tm {m t a : Nat} {st : Nat → Nat → Int32} {M : gMem} (L : LSt m t a M) : mT (bC 17 a st M) m = 13 := sorry

theorem q_Rm {m t a : Nat} {st : Nat → Nat → Int32} {M : gMem} (L : LSt m t a M) : mR (bC 17 a st M) m 11 = some t := sorry

theorem q_Tt {m t a : Nat} {st : Nat → Nat → Int32} {M : gMem} (L : LSt m t a M) : mT (bC 17 a st M) t = 12 := sorry

theorem q_T1 {m t a : Nat} {st : Nat → Nat → Int32} {M : gMem} (L : LSt m t a M) : mT (bC 17 a st M) (a + 1) = 20 := sorry

theorem q_L1 {m t a : Nat} {st : Nat → Nat → Int32} {M : gMem} (L : LSt m t a M) : mL (bC 17 a st M) (a + 1) = 40 := sorry

theorem q_R2 {m t a : Nat} {st : Nat → Nat → Int32} {M : gMem} (L : LSt m t a M) : mR (bC 17 a st M) a 2 = some (a + 1) := sorry

theorem q_t1 {m t a : Nat} {st : Nat → Nat → Int32} {M : gMem} (L : LSt m t a M) : mT (bC 17 a st M) (t + 1) = 20 := sorry

theorem q_l1 {m t a : Nat} {st : Nat → Nat → Int32} {M : gMem} (L : LSt m t a M) : mL (bC 17 a st M) (t + 1) = 8 := sorry

theorem q_T2 {m t a : Nat} {st : Nat → Nat → Int32} {M : gMem} (L : LSt m t a M) : mT (bC 17 a st M) (a + 2) = 20 := sorry

theorem q_L2 {m t a : Nat} {st : Nat → Nat → Int32} {M : gMem} (L : LSt m t a M) : mL (bC 17 a st M) (a + 2) = 8 := sorry

theorem q_R3 {m t a : Nat} {st : Nat → Nat → Int32} {M : gMem} (L : LSt m t a M) : mR (bC 17 a st M) a 3 = some (a + 2) := sorry

theorem q_t2 {m t a : Nat} {st : Nat → Nat → Int32} {M : gMem} (L : LSt m t a M) : mT (bC 17 a st M) (t + 2) = 20 := sorry

theorem q_l2 {m t a : Nat} {st : Nat → Nat → Int32} {M : gMem} (L : LSt m t a M) : mL (bC 17 a st M) (t + 2) = 40 := sorry

theorem q_T3 {m t a : Nat} {st : Nat → Nat → Int32} {M : gMem} (L : LSt m t a M) : mT (bC 17 a st M) (a + 3) = 20 := sorry

theorem q_L3 {m t a : Nat} {st : Nat → Nat → Int32} {M : gMem} (L : LSt m t a M) : mL (bC 17 a st M) (a + 3) = 64 := sorry

theorem q_R4 {m t a : Nat} {st : Nat → Nat → Int32} {M : gMem} (L : LSt m t a M) : mR (bC 17 a st M) a 4 = some (a + 3) := sorry

theorem q_t3 {m t a : Nat} {st : Nat → Nat → Int32} {M : gMem} (L : LSt m t a M) : mT (bC 17 a st M) (t + 3) = 20 := sorry

theorem q_l3 {m t a : Nat} {st : Nat → Nat → Int32} {M : gMem} (L : LSt m t a M) : mL (bC 17 a st M) (t + 3) = 8 := sorry

theorem q_T4 {m t a : Nat} {st : Nat → Nat → Int32} {M : gMem} (L : LSt m t a M) : mT (bC 17 a st M) (a + 4) = 20 := sorry

theorem q_L4 {m t a : Nat} {st : Nat → Nat → Int32} {M : gMem} (L : LSt m t a M) : mL (bC 17 a st M) (a + 4) = 8 := sorry

theorem q_R5 {m t a : Nat} {st : Nat → Nat → Int32} {M : gMem} (L : LSt m t a M) : mR (bC 17 a st M) a 5 = some (a + 4) := sorry

theorem q_t4 {m t a : Nat} {st : Nat → Nat → Int32} {M : gMem} (L : LSt m t a M) : mT (bC 17 a st M) (t + 4) = 20 := sorry

theorem q_l4 {m t a : Nat} {st : Nat → Nat → Int32} {M : gMem} (L : LSt m t a M) : mL (bC 17 a st M) (t + 4) = 8 := sorry

theorem q_T5 {m t a : Nat} {st : Nat → Nat → Int32} {M : gMem} (L : LSt m t a M) : mT (bC 17 a st M) (a + 5) = 20 := sorry

theorem q_L5 {m t a : Nat} {st : Nat → Nat → Int32} {M : gMem} (L : LSt m t a M) : mL (bC 17 a st M) (a + 5) = 8 := sorry

theorem q_R6 {m t a : Nat} {st : Nat → Nat → Int32} {M : gMem} (L : LSt m t a M) : mR (bC 17 a st M) a 6 = some (a + 5) := sorry

theorem q_t5 {m t a : Nat} {st : Nat → Nat → Int32} {M : gMem} (L : LSt m t a M) : mT (bC 17 a st M) (t + 5) = 20 := sorry

theorem q_l5 {m t a : Nat} {st : Nat → Nat → Int32} {M : gMem} (L : LSt m t a M) : mL (bC 17 a st M) (t + 5) = 8 := sorry

theorem q_T6 {m t a : Nat} {st : Nat → Nat → Int32} {M : gMem} (L : LSt m t a M) : mT (bC 17 a st M) (a + 6) = 20 := sorry

theorem q_L6 {m t a : Nat} {st : Nat → Nat → Int32} {M : gMem} (L : LSt m t a M) : mL (bC 17 a st M) (a + 6) = 8 := sorry

theorem q_R7 {m t a : Nat} {st : Nat → Nat → Int32} {M : gMem} (L : LSt m t a M) : mR (bC 17 a st M) a 7 = some (a + 6) := sorry

theorem q_t6 {m t a : Nat} {st : Nat → Nat → Int32} {M : gMem} (L : LSt m t a M) : mT (bC 17 a st M) (t + 6) = 20 := sorry

theorem q_l6 {m t a : Nat} {st : Nat → Nat → Int32} {M : gMem} (L : LSt m t a M) : mL (bC 17 a st M) (t + 6) = 24 := sorry

theorem q_T7 {m t a : Nat} {st : Nat → Nat → Int32} {M : gMem} (L : LSt m t a M) : mT (bC 17 a st M) (a + 7) = 20 := sorry

theorem q_L7 {m t a : Nat} {st : Nat → Nat → Int32} {M : gMem} (L : LSt m t a M) : mL (bC 17 a st M) (a + 7) = 8 := sorry

theorem q_R8 {m t a : Nat} {st : Nat → Nat → Int32} {M : gMem} (L : LSt m t a M) : mR (bC 17 a st M) a 8 = some (a + 7) := sorry

theorem q_t7 {m t a : Nat} {st : Nat → Nat → Int32} {M : gMem} (L : LSt m t a M) : mT (bC 17 a st M) (t + 7) = 20 := sorry

theorem q_l7 {m t a : Nat} {st : Nat → Nat → Int32} {M : gMem} (L : LSt m t a M) : mL (bC 17 a st M) (t + 7) = 24 := sorry

theorem q_T8 {m t a : Nat} {st : Nat → Nat → Int32} {M : gMem} (L : LSt m t a M) : mT (bC 17 a st M) (a + 8) = 20 := sorry

theorem q_L8 {m t a : Nat} {st : Nat → Nat → Int32} {M : gMem} (L : LSt m t a M) : mL (bC 17 a st M) (a + 8) = 8 := sorry

theorem q_R9 {m t a : Nat} {st : Nat → Nat → Int32} {M : gMem} (L : LSt m t a M) : mR (bC 17 a st M) a 9 = some (a + 8) := sorry

theorem q_t8 {m t a : Nat} {st : Nat → Nat → Int32} {M : gMem} (L : LSt m t a M) : mT (bC 17 a st M) (t + 8) = 20 := sorry

theorem q_l8 {m t a : Nat} {st : Nat → Nat → Int32} {M : gMem} (L : LSt m t a M) : mL (bC 17 a st M) (t + 8) = 6 := sorry

theorem q_T9 {m t a : Nat} {st : Nat → Nat → Int32} {M : gMem} (L : LSt m t a M) : mT (bC 17 a st M) (a + 9) = 20 := sorry

theorem q_L9 {m t a : Nat} {st : Nat → Nat → Int32} {M : gMem} (L : LSt m t a M) : mL (bC 17 a st M) (a + 9) = 8 := sorry

theorem q_R10 {m t a : Nat} {st : Nat → Nat → Int32} {M : gMem} (L : LSt m t a M) : mR (bC 17 a st M) a 10 = some (a + 9) := sorry

theorem q_t9 {m t a : Nat} {st : Nat → Nat → Int32} {M : gMem} (L : LSt m t a M) : mT (bC 17 a st M) (t + 9) = 20 := sorry

theorem q_l9 {m t a : Nat} {st : Nat → Nat → Int32} {M : gMem} (L : LSt m t a M) : mL (bC 17 a st M) (t + 9) = 6 := sorry

theorem q_T10 {m t a : Nat} {st : Nat → Nat → Int32} {M : gMem} (L : LSt m t a M) : mT (bC 17 a st M) (a + 10) = 20 := sorry

theorem q_L10 {m t a : Nat} {st : Nat → Nat → Int32} {M : gMem} (L : LSt m t a M) : mL (bC 17 a st M) (a + 10) = 6 := sorry

theorem q_R11 {m t a : Nat} {st : Nat → Nat → Int32} {M : gMem} (L : LSt m t a M) : mR (bC 17 a st M) a 11 = some (a + 10) := sorry

theorem q_t10 {m t a : Nat} {st : Nat → Nat → Int32} {M : gMem} (L : LSt m t a M) : mT (bC 17 a st M) (t + 10) = 20 := sorry

theorem q_l10 {m t a : Nat} {st : Nat → Nat → Int32} {M : gMem} (L : LSt m t a M) : mL (bC 17 a st M) (t + 10) = 48 := sorry

theorem q_T11 {m t a : Nat} {st : Nat → Nat → Int32} {M : gMem} (L : LSt m t a M) : mT (bC 17 a st M) (a + 11) = 20 := sorry

theorem q_L11 {m t a : Nat} {st : Nat → Nat → Int32} {M : gMem} (L : LSt m t a M) : mL (bC 17 a st M) (a + 11) = 6 := sorry

theorem q_R12 {m t a : Nat} {st : Nat → Nat → Int32} {M : gMem} (L : LSt m t a M) : mR (bC 17 a st M) a 12 = some (a + 11) := sorry

theorem q_t11 {m t a : Nat} {st : Nat → Nat → Int32} {M : gMem} (L : LSt m t a M) : mT (bC 17 a st M) (t + 11) = 20 := sorry

theorem q_l11 {m t a : Nat} {st : Nat → Nat → Int32} {M : gMem} (L : LSt m t a M) : mL (bC 17 a st M) (t + 11) = 25 := sorry

theorem q_T12 {m t a : Nat} {st : Nat → Nat → Int32} {M : gMem} (L : LSt m t a M) : mT (bC 17 a st M) (a + 12) = 20 := sorry

theorem q_L12 {m t a : Nat} {st : Nat → Nat → Int32} {M : gMem} (L : LSt m t a M) : mL (bC 17 a st M) (a + 12) = 6 := sorry

theorem q_R13 {m t a : Nat} {st : Nat → Nat → Int32} {M : gMem} (L : LSt m t a M) : mR (bC 17 a st M) a 13 = some (a + 12) := sorry

theorem q_t12 {m t a : Nat} {st : Nat → Nat → Int32} {M : gMem} (L : LSt m t a M) : mT (bC 17 a st M) (t + 12) = 20 := sorry

theorem q_l12 {m t a : Nat} {st : Nat → Nat → Int32} {M : gMem} (L : LSt m t a M) : mL (bC 17 a st M) (t + 12) = 25 := sorry

theorem q_T13 {m t a : Nat} {st : Nat → Nat → Int32} {M : gMem} (L : LSt m t a M) : mT (bC 17 a st M) (a + 13) = 20 := sorry

theorem q_L13 {m t a : Nat} {st : Nat → Nat → Int32} {M : gMem} (L : LSt m t a M) : mL (bC 17 a st M) (a + 13) = 8 := sorry

theorem q_R14 {m t a : Nat} {st : Nat → Nat → Int32} {M : gMem} (L : LSt m t a M) : mR (bC 17 a st M) a 14 = some (a + 13) := sorry

theorem q_t13 {m t a : Nat} {st : Nat → Nat → Int32} {M : gMem} (L : LSt m t a M) : mT (bC 17 a st M) (t + 13) = 20 := sorry

theorem q_l13 {m t a : Nat} {st : Nat → Nat → Int32} {M : gMem} (L : LSt m t a M) : mL (bC 17 a st M) (t + 13) = 7 := sorry

theorem q_T14 {m t a : Nat} {st : Nat → Nat → Int32} {M : gMem} (L : LSt m t a M) : mT (bC 17 a st M) (a + 14) = 20 := sorry

theorem q_L14 {m t a : Nat} {st : Nat → Nat → Int32} {M : gMem} (L : LSt m t a M) : mL (bC 17 a st M) (a + 14) = 8 := sorry

theorem q_R15 {m t a : Nat} {st : Nat → Nat → Int32} {M : gMem} (L : LSt m t a M) : mR (bC 17 a st M) a 15 = some (a + 14) := sorry

theorem q_t14 {m t a : Nat} {st : Nat → Nat → Int32} {M : gMem} (L : LSt m t a M) : mT (bC 17 a st M) (t + 14) = 20 := sorry

theorem q_l14 {m t a : Nat} {st : Nat → Nat → Int32} {M : gMem} (L : LSt m t a M) : mL (bC 17 a st M) (t + 14) = 7 := sorry

theorem q_T15 {m t a : Nat} {st : Nat → Nat → Int32} {M : gMem} (L : LSt m t a M) : mT (bC 17 a st M) (a + 15) = 20 := sorry

theorem q_L15 {m t a : Nat} {st : Nat → Nat → Int32} {M : gMem} (L : LSt m t a M) : mL (bC 17 a st M) (a + 15) = 6 := sorry

theorem q_R16 {m t a : Nat} {st : Nat → Nat → Int32} {M : gMem} (L : LSt m t a M) : mR (bC 17 a st M) a 16 = some (a + 15) := sorry

theorem q_t15 {m t a : Nat} {st : Nat → Nat → Int32} {M : gMem} (L : LSt m t a M) : mT (bC 17 a st M) (t + 15) = 20 := sorry

theorem q_l15 {m t a : Nat} {st : Nat → Nat → Int32} {M : gMem} (L : LSt m t a M) : mL (bC 17 a st M) (t + 15) = 800 := sorry

theorem q_T16 {m t a : Nat} {st : Nat → Nat → Int32} {M : gMem} (L : LSt m t a M) : mT (bC 17 a st M) (a + 16) = 20 := sorry

theorem q_L16 {m t a : Nat} {st : Nat → Nat → Int32} {M : gMem} (L : LSt m t a M) : mL (bC 17 a st M) (a + 16) = 400 := sorry

theorem q_R17 {m t a : Nat} {st : Nat → Nat → Int32} {M : gMem} (L : LSt m t a M) : mR (bC 17 a st M) a 17 = some (a + 16) := sorry

theorem q_t16 {m t a : Nat} {st : Nat → Nat → Int32} {M : gMem} (L : LSt m t a M) : mT (bC 17 a st M) (t + 16) = 20 := sorry

theorem q_l16 {m t a : Nat} {st : Nat → Nat → Int32} {M : gMem} (L : LSt m t a M) : mL (bC 17 a st M) (t + 16) = 400 := sorry

theorem q_r1 {m t a : Nat} {st : Nat → Nat → Int32} {M : gMem} (L : LSt m t a M) : mR (bC 17 a st M) t 1 = some (t + 1) := sorry

theorem q_r2 {m t a : Nat} {st : Nat → Nat → Int32} {M : gMem} (L : LSt m t a M) : mR (bC 17 a st M) t 2 = some (t + 2) := sorry

theorem q_r5 {m t a : Nat} {st : Nat → Nat → Int32} {M : gMem} (L : LSt m t a M) : mR (bC 17 a st M) t 5 = some (t + 3) := sorry

theorem q_r6 {m t a : Nat} {st : Nat → Nat → Int32} {M : gMem} (L : LSt m t a M) : mR (bC 17 a st M) t 6 = some (t + 4) := sorry

theorem q_r7 {m t a : Nat} {st : Nat → Nat → Int32} {M : gMem} (L : LSt m t a M) : mR (bC 17 a st M) t 7 = some (t + 5) := sorry

theorem q_r9 {m t a : Nat} {st : Nat → Nat → Int32} {M : gMem} (L : LSt m t a M) : mR (bC 17 a st M) t 9 = some (t + 6) := sorry

theorem q_r10 {m t a : Nat} {st : Nat → Nat → Int32} {M : gMem} (L : LSt m t a M) : mR (bC 17 a st M) t 10 = some (t + 7) := sorry

theorem q_r12 {m t a : Nat} {st : Nat → Nat → Int32} {M : gMem} (L : LSt m t a M) : mR (bC 17 a st M) t 12 = some (t + 8) := sorry

theorem q_r13 {m t a : Nat} {st : Nat → Nat → Int32} {M : gMem} (L : LSt m t a M) : mR (bC 17 a st M) t 13 = some (t + 9) := sorry

theorem q_r14 {m t a : Nat} {st : Nat → Nat → Int32} {M : gMem} (L : LSt m t a M) : mR (bC 17 a st M) t 14 = some (t + 10) := sorry

theorem q_r17 {m t a : Nat} {st : Nat → Nat → Int32} {M : gMem} (L : LSt m t a M) : mR (bC 17 a st M) t 17 = some (t + 11) := sorry

theorem q_r18 {m t a : Nat} {st : Nat → Nat → Int32} {M : gMem} (L : LSt m t a M) : mR (bC 17 a st M) t 18 = some (t + 12) := sorry

theorem q_r19 {m t a : Nat} {st : Nat → Nat → Int32} {M : gMem} (L : LSt m t a M) : mR (bC 17 a st M) t 19 = some (t + 13) := sorry

theorem q_r20 {m t a : Nat} {st : Nat → Nat → Int32} {M : gMem} (L : LSt m t a M) : mR (bC 17 a st M) t 20 = some (t + 14) := sorry

theorem q_r21 {m t a : Nat} {st : Nat → Nat → Int32} {M : gMem} (L : LSt m t a M) : mR (bC 17 a st M) t 21 = some (t + 15) := sorry

theorem q_r23 {m t a : Nat} {st : Nat → Nat → Int32} {M : gMem} (L : LSt m t a M) : mR (bC 17 a st M) t 23 = some (t + 16) := sorry

theorem q_I {k : Nat} {m t a : Nat} {st : Nat → Nat → Int32} {M : gMem} (L : LSt m t a M) : mI (bC 17 a st M) t k = mI M t k := sorry

theorem q_Ij {j k : Nat} {m t a : Nat} {st : Nat → Nat → Int32} {M : gMem} (L : LSt m t a M) (h : j < 17) : mI (bC 17 a st M) (t + j) k = mI M (t + j) k := sorry
