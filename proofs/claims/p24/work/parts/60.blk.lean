/-! ## Pure: a block of cells; a State of the reference at a, what is told at t -/
def bC (n a : Nat) (st : Nat → Nat → Int32) (M : gMem) : gMem := sI M (fun b k => if a ≤ b ∧ b < a + n then st (b - a) k else mI M b k)
theorem bC_I {n a d k : Nat} {st : Nat → Nat → Int32} {M : gMem} (h : d < n) : mI (bC n a st M) (a + d) k = st d k := by
  show (if a ≤ a + d ∧ a + d < a + n then st (a + d - a) k else mI M (a + d) k) = st d k
  rw [if_pos ⟨by omega, by omega⟩, Nat.add_sub_cancel_left]
theorem bC_I0 {n a k : Nat} {st : Nat → Nat → Int32} {M : gMem} (h : 0 < n) : mI (bC n a st M) a k = st 0 k := bC_I (d := 0) h
theorem bC_Io {n a b k : Nat} {st : Nat → Nat → Int32} {M : gMem} (h : b < a ∨ a + n ≤ b) : mI (bC n a st M) b k = mI M b k := if_neg (by omega)
theorem bC_W {n a d k : Nat} {v : Int32} {st : Nat → Nat → Int32} {M : gMem} (h : d < n) : wI (bC n a st M) (a + d) k v = bC n a (up2 st d k v) M := by
  unfold bC
  rw [wI_sI, sI_sI]
  congr 1
  funext b j
  show (if b = a + d ∧ j = k then v else if a ≤ b ∧ b < a + n then st (b - a) j else mI M b j) = (if a ≤ b ∧ b < a + n then (if b - a = d ∧ j = k then v else st (b - a) j) else mI M b j)
  by_cases h1 : b = a + d ∧ j = k
  · rw [if_pos h1, if_pos (by omega), if_pos ⟨by omega, h1.2⟩]
  · rw [if_neg h1]
    by_cases h2 : a ≤ b ∧ b < a + n
    · rw [if_pos h2, if_pos h2, if_neg (by intro q; exact h1 ⟨by omega, q.2⟩)]
    · rw [if_neg h2, if_neg h2]
theorem bC_W0 {n a k : Nat} {v : Int32} {st : Nat → Nat → Int32} {M : gMem} (h : 0 < n) : wI (bC n a st M) a k v = bC n a (up2 st 0 k v) M := bC_W (d := 0) h
theorem bC_cp {n a d e i j c : Nat} {st : Nat → Nat → Int32} {M : gMem} (hd : d < n) (he : e < n) : cpI (bC n a st M) (a + d) i (a + e) j c = bC n a (up1 st e (va_cpy (st d) (st e) i j c)) M := by
  have e1 : ∀ x, x < n → mI (bC n a st M) (a + x) = st x := fun x hx => funext fun k => bC_I hx
  unfold cpI
  rw [e1 d hd, e1 e he]
  unfold bC sI
  congr 3
  funext b k
  show up1 (fun b k => if a ≤ b ∧ b < a + n then st (b - a) k else mI M b k) (a + e) (va_cpy (st d) (st e) i j c) b k = if a ≤ b ∧ b < a + n then up1 st e (va_cpy (st d) (st e) i j c) (b - a) k else mI M b k
  by_cases h1 : b = a + e
  · subst h1
    rw [if_pos ⟨by omega, by omega⟩, Nat.add_sub_cancel_left]
    simp [up1]
  · rw [up1_o h1]
    by_cases h2 : a ≤ b ∧ b < a + n
    · rw [if_pos h2, if_pos h2, up1_o (by omega)]
    · rw [if_neg h2, if_neg h2]
theorem bC_cpo {n a b e i j c : Nat} {st : Nat → Nat → Int32} {M : gMem} (hb : b < a ∨ a + n ≤ b) (he : e < n) : cpI (bC n a st M) b i (a + e) j c = bC n a (up1 st e (va_cpy (mI M b) (st e) i j c)) M := by
  have e1 : ∀ x, x < n → mI (bC n a st M) (a + x) = st x := fun x hx => funext fun k => bC_I hx
  have e2 : mI (bC n a st M) b = mI M b := funext fun k => bC_Io hb
  unfold cpI
  rw [e2, e1 e he]
  unfold bC sI
  congr 3
  funext x k
  show up1 (fun b k => if a ≤ b ∧ b < a + n then st (b - a) k else mI M b k) (a + e) (va_cpy (mI M b) (st e) i j c) x k = if a ≤ x ∧ x < a + n then up1 st e (va_cpy (mI M b) (st e) i j c) (x - a) k else mI M x k
  by_cases h1 : x = a + e
  · subst h1
    rw [if_pos ⟨by omega, by omega⟩, Nat.add_sub_cancel_left]
    simp [up1]
  · rw [up1_o h1]
    by_cases h2 : a ≤ x ∧ x < a + n
    · rw [if_pos h2, if_pos h2, up1_o (by omega)]
    · rw [if_neg h2, if_neg h2]
theorem bC_self (n a : Nat) (M : gMem) : bC n a (fun d k => mI M (a + d) k) M = M := by
  unfold bC
  have : (fun b k => if a ≤ b ∧ b < a + n then mI M (a + (b - a)) k else mI M b k) = mI M := by
    funext b k
    by_cases h : a ≤ b ∧ b < a + n
    · rw [if_pos h, show a + (b - a) = b by omega]
    · rw [if_neg h]
  rw [this]; rfl
def lenS (j : Nat) : Nat := [0, 40, 8, 64, 8, 8, 8, 8, 8, 8, 6, 6, 6, 8, 8, 6, 400].getD j 0
def lenD (j : Nat) : Nat := [0, 8, 40, 8, 8, 8, 24, 24, 6, 6, 48, 25, 25, 7, 7, 800, 400].getD j 0
def tdR (k : Nat) : Nat := [0, 1, 2, 0, 0, 3, 4, 5, 0, 6, 7, 0, 8, 9, 10, 0, 0, 11, 12, 13, 14, 15, 0, 16, 0].getD k 0
/-- a State at a, of the model at m, whose told stands at t -/
def LSt (m t a : Nat) (M : gMem) : Prop :=
  (mT M a = 11 ∧ mR M a 18 = some m ∧ mT M m = 13 ∧ mR M m 11 = some t ∧ mT M t = 12) ∧ (a + 17 ≤ t ∨ t + 17 ≤ a) ∧
  (∀ j, 1 ≤ j → j < 17 → mT M (a + j) = 20 ∧ mL M (a + j) = lenS j ∧ mR M a (j + 1) = some (a + j)) ∧
  (∀ j, 1 ≤ j → j < 17 → mT M (t + j) = 20 ∧ mL M (t + j) = lenD j) ∧ ∀ k, k < 25 → 0 < tdR k → mR M t k = some (t + tdR k)
theorem q_T {m t a : Nat} {st : Nat → Nat → Int32} {M : gMem} (L : LSt m t a M) : mT (bC 17 a st M) a = 11 := L.1.1
theorem q_R18 {m t a : Nat} {st : Nat → Nat → Int32} {M : gMem} (L : LSt m t a M) : mR (bC 17 a st M) a 18 = some m := L.1.2.1
theorem q_Tm {m t a : Nat} {st : Nat → Nat → Int32} {M : gMem} (L : LSt m t a M) : mT (bC 17 a st M) m = 13 := L.1.2.2.1
theorem q_Rm {m t a : Nat} {st : Nat → Nat → Int32} {M : gMem} (L : LSt m t a M) : mR (bC 17 a st M) m 11 = some t := L.1.2.2.2.1
theorem q_Tt {m t a : Nat} {st : Nat → Nat → Int32} {M : gMem} (L : LSt m t a M) : mT (bC 17 a st M) t = 12 := L.1.2.2.2.2
theorem q_T1 {m t a : Nat} {st : Nat → Nat → Int32} {M : gMem} (L : LSt m t a M) : mT (bC 17 a st M) (a + 1) = 20 := (L.2.2.1 1 (by decide) (by decide)).1
theorem q_L1 {m t a : Nat} {st : Nat → Nat → Int32} {M : gMem} (L : LSt m t a M) : mL (bC 17 a st M) (a + 1) = 40 := (L.2.2.1 1 (by decide) (by decide)).2.1
theorem q_R2 {m t a : Nat} {st : Nat → Nat → Int32} {M : gMem} (L : LSt m t a M) : mR (bC 17 a st M) a 2 = some (a + 1) := (L.2.2.1 1 (by decide) (by decide)).2.2
theorem q_t1 {m t a : Nat} {st : Nat → Nat → Int32} {M : gMem} (L : LSt m t a M) : mT (bC 17 a st M) (t + 1) = 20 := (L.2.2.2.1 1 (by decide) (by decide)).1
theorem q_l1 {m t a : Nat} {st : Nat → Nat → Int32} {M : gMem} (L : LSt m t a M) : mL (bC 17 a st M) (t + 1) = 8 := (L.2.2.2.1 1 (by decide) (by decide)).2
theorem q_T2 {m t a : Nat} {st : Nat → Nat → Int32} {M : gMem} (L : LSt m t a M) : mT (bC 17 a st M) (a + 2) = 20 := (L.2.2.1 2 (by decide) (by decide)).1
theorem q_L2 {m t a : Nat} {st : Nat → Nat → Int32} {M : gMem} (L : LSt m t a M) : mL (bC 17 a st M) (a + 2) = 8 := (L.2.2.1 2 (by decide) (by decide)).2.1
theorem q_R3 {m t a : Nat} {st : Nat → Nat → Int32} {M : gMem} (L : LSt m t a M) : mR (bC 17 a st M) a 3 = some (a + 2) := (L.2.2.1 2 (by decide) (by decide)).2.2
theorem q_t2 {m t a : Nat} {st : Nat → Nat → Int32} {M : gMem} (L : LSt m t a M) : mT (bC 17 a st M) (t + 2) = 20 := (L.2.2.2.1 2 (by decide) (by decide)).1
theorem q_l2 {m t a : Nat} {st : Nat → Nat → Int32} {M : gMem} (L : LSt m t a M) : mL (bC 17 a st M) (t + 2) = 40 := (L.2.2.2.1 2 (by decide) (by decide)).2
theorem q_T3 {m t a : Nat} {st : Nat → Nat → Int32} {M : gMem} (L : LSt m t a M) : mT (bC 17 a st M) (a + 3) = 20 := (L.2.2.1 3 (by decide) (by decide)).1
theorem q_L3 {m t a : Nat} {st : Nat → Nat → Int32} {M : gMem} (L : LSt m t a M) : mL (bC 17 a st M) (a + 3) = 64 := (L.2.2.1 3 (by decide) (by decide)).2.1
theorem q_R4 {m t a : Nat} {st : Nat → Nat → Int32} {M : gMem} (L : LSt m t a M) : mR (bC 17 a st M) a 4 = some (a + 3) := (L.2.2.1 3 (by decide) (by decide)).2.2
theorem q_t3 {m t a : Nat} {st : Nat → Nat → Int32} {M : gMem} (L : LSt m t a M) : mT (bC 17 a st M) (t + 3) = 20 := (L.2.2.2.1 3 (by decide) (by decide)).1
theorem q_l3 {m t a : Nat} {st : Nat → Nat → Int32} {M : gMem} (L : LSt m t a M) : mL (bC 17 a st M) (t + 3) = 8 := (L.2.2.2.1 3 (by decide) (by decide)).2
theorem q_T4 {m t a : Nat} {st : Nat → Nat → Int32} {M : gMem} (L : LSt m t a M) : mT (bC 17 a st M) (a + 4) = 20 := (L.2.2.1 4 (by decide) (by decide)).1
theorem q_L4 {m t a : Nat} {st : Nat → Nat → Int32} {M : gMem} (L : LSt m t a M) : mL (bC 17 a st M) (a + 4) = 8 := (L.2.2.1 4 (by decide) (by decide)).2.1
theorem q_R5 {m t a : Nat} {st : Nat → Nat → Int32} {M : gMem} (L : LSt m t a M) : mR (bC 17 a st M) a 5 = some (a + 4) := (L.2.2.1 4 (by decide) (by decide)).2.2
theorem q_t4 {m t a : Nat} {st : Nat → Nat → Int32} {M : gMem} (L : LSt m t a M) : mT (bC 17 a st M) (t + 4) = 20 := (L.2.2.2.1 4 (by decide) (by decide)).1
theorem q_l4 {m t a : Nat} {st : Nat → Nat → Int32} {M : gMem} (L : LSt m t a M) : mL (bC 17 a st M) (t + 4) = 8 := (L.2.2.2.1 4 (by decide) (by decide)).2
theorem q_T5 {m t a : Nat} {st : Nat → Nat → Int32} {M : gMem} (L : LSt m t a M) : mT (bC 17 a st M) (a + 5) = 20 := (L.2.2.1 5 (by decide) (by decide)).1
theorem q_L5 {m t a : Nat} {st : Nat → Nat → Int32} {M : gMem} (L : LSt m t a M) : mL (bC 17 a st M) (a + 5) = 8 := (L.2.2.1 5 (by decide) (by decide)).2.1
theorem q_R6 {m t a : Nat} {st : Nat → Nat → Int32} {M : gMem} (L : LSt m t a M) : mR (bC 17 a st M) a 6 = some (a + 5) := (L.2.2.1 5 (by decide) (by decide)).2.2
theorem q_t5 {m t a : Nat} {st : Nat → Nat → Int32} {M : gMem} (L : LSt m t a M) : mT (bC 17 a st M) (t + 5) = 20 := (L.2.2.2.1 5 (by decide) (by decide)).1
theorem q_l5 {m t a : Nat} {st : Nat → Nat → Int32} {M : gMem} (L : LSt m t a M) : mL (bC 17 a st M) (t + 5) = 8 := (L.2.2.2.1 5 (by decide) (by decide)).2
theorem q_T6 {m t a : Nat} {st : Nat → Nat → Int32} {M : gMem} (L : LSt m t a M) : mT (bC 17 a st M) (a + 6) = 20 := (L.2.2.1 6 (by decide) (by decide)).1
theorem q_L6 {m t a : Nat} {st : Nat → Nat → Int32} {M : gMem} (L : LSt m t a M) : mL (bC 17 a st M) (a + 6) = 8 := (L.2.2.1 6 (by decide) (by decide)).2.1
theorem q_R7 {m t a : Nat} {st : Nat → Nat → Int32} {M : gMem} (L : LSt m t a M) : mR (bC 17 a st M) a 7 = some (a + 6) := (L.2.2.1 6 (by decide) (by decide)).2.2
theorem q_t6 {m t a : Nat} {st : Nat → Nat → Int32} {M : gMem} (L : LSt m t a M) : mT (bC 17 a st M) (t + 6) = 20 := (L.2.2.2.1 6 (by decide) (by decide)).1
theorem q_l6 {m t a : Nat} {st : Nat → Nat → Int32} {M : gMem} (L : LSt m t a M) : mL (bC 17 a st M) (t + 6) = 24 := (L.2.2.2.1 6 (by decide) (by decide)).2
theorem q_T7 {m t a : Nat} {st : Nat → Nat → Int32} {M : gMem} (L : LSt m t a M) : mT (bC 17 a st M) (a + 7) = 20 := (L.2.2.1 7 (by decide) (by decide)).1
theorem q_L7 {m t a : Nat} {st : Nat → Nat → Int32} {M : gMem} (L : LSt m t a M) : mL (bC 17 a st M) (a + 7) = 8 := (L.2.2.1 7 (by decide) (by decide)).2.1
theorem q_R8 {m t a : Nat} {st : Nat → Nat → Int32} {M : gMem} (L : LSt m t a M) : mR (bC 17 a st M) a 8 = some (a + 7) := (L.2.2.1 7 (by decide) (by decide)).2.2
theorem q_t7 {m t a : Nat} {st : Nat → Nat → Int32} {M : gMem} (L : LSt m t a M) : mT (bC 17 a st M) (t + 7) = 20 := (L.2.2.2.1 7 (by decide) (by decide)).1
theorem q_l7 {m t a : Nat} {st : Nat → Nat → Int32} {M : gMem} (L : LSt m t a M) : mL (bC 17 a st M) (t + 7) = 24 := (L.2.2.2.1 7 (by decide) (by decide)).2
theorem q_T8 {m t a : Nat} {st : Nat → Nat → Int32} {M : gMem} (L : LSt m t a M) : mT (bC 17 a st M) (a + 8) = 20 := (L.2.2.1 8 (by decide) (by decide)).1
theorem q_L8 {m t a : Nat} {st : Nat → Nat → Int32} {M : gMem} (L : LSt m t a M) : mL (bC 17 a st M) (a + 8) = 8 := (L.2.2.1 8 (by decide) (by decide)).2.1
theorem q_R9 {m t a : Nat} {st : Nat → Nat → Int32} {M : gMem} (L : LSt m t a M) : mR (bC 17 a st M) a 9 = some (a + 8) := (L.2.2.1 8 (by decide) (by decide)).2.2
theorem q_t8 {m t a : Nat} {st : Nat → Nat → Int32} {M : gMem} (L : LSt m t a M) : mT (bC 17 a st M) (t + 8) = 20 := (L.2.2.2.1 8 (by decide) (by decide)).1
theorem q_l8 {m t a : Nat} {st : Nat → Nat → Int32} {M : gMem} (L : LSt m t a M) : mL (bC 17 a st M) (t + 8) = 6 := (L.2.2.2.1 8 (by decide) (by decide)).2
theorem q_T9 {m t a : Nat} {st : Nat → Nat → Int32} {M : gMem} (L : LSt m t a M) : mT (bC 17 a st M) (a + 9) = 20 := (L.2.2.1 9 (by decide) (by decide)).1
theorem q_L9 {m t a : Nat} {st : Nat → Nat → Int32} {M : gMem} (L : LSt m t a M) : mL (bC 17 a st M) (a + 9) = 8 := (L.2.2.1 9 (by decide) (by decide)).2.1
theorem q_R10 {m t a : Nat} {st : Nat → Nat → Int32} {M : gMem} (L : LSt m t a M) : mR (bC 17 a st M) a 10 = some (a + 9) := (L.2.2.1 9 (by decide) (by decide)).2.2
theorem q_t9 {m t a : Nat} {st : Nat → Nat → Int32} {M : gMem} (L : LSt m t a M) : mT (bC 17 a st M) (t + 9) = 20 := (L.2.2.2.1 9 (by decide) (by decide)).1
theorem q_l9 {m t a : Nat} {st : Nat → Nat → Int32} {M : gMem} (L : LSt m t a M) : mL (bC 17 a st M) (t + 9) = 6 := (L.2.2.2.1 9 (by decide) (by decide)).2
theorem q_T10 {m t a : Nat} {st : Nat → Nat → Int32} {M : gMem} (L : LSt m t a M) : mT (bC 17 a st M) (a + 10) = 20 := (L.2.2.1 10 (by decide) (by decide)).1
theorem q_L10 {m t a : Nat} {st : Nat → Nat → Int32} {M : gMem} (L : LSt m t a M) : mL (bC 17 a st M) (a + 10) = 6 := (L.2.2.1 10 (by decide) (by decide)).2.1
theorem q_R11 {m t a : Nat} {st : Nat → Nat → Int32} {M : gMem} (L : LSt m t a M) : mR (bC 17 a st M) a 11 = some (a + 10) := (L.2.2.1 10 (by decide) (by decide)).2.2
theorem q_t10 {m t a : Nat} {st : Nat → Nat → Int32} {M : gMem} (L : LSt m t a M) : mT (bC 17 a st M) (t + 10) = 20 := (L.2.2.2.1 10 (by decide) (by decide)).1
theorem q_l10 {m t a : Nat} {st : Nat → Nat → Int32} {M : gMem} (L : LSt m t a M) : mL (bC 17 a st M) (t + 10) = 48 := (L.2.2.2.1 10 (by decide) (by decide)).2
theorem q_T11 {m t a : Nat} {st : Nat → Nat → Int32} {M : gMem} (L : LSt m t a M) : mT (bC 17 a st M) (a + 11) = 20 := (L.2.2.1 11 (by decide) (by decide)).1
theorem q_L11 {m t a : Nat} {st : Nat → Nat → Int32} {M : gMem} (L : LSt m t a M) : mL (bC 17 a st M) (a + 11) = 6 := (L.2.2.1 11 (by decide) (by decide)).2.1
theorem q_R12 {m t a : Nat} {st : Nat → Nat → Int32} {M : gMem} (L : LSt m t a M) : mR (bC 17 a st M) a 12 = some (a + 11) := (L.2.2.1 11 (by decide) (by decide)).2.2
theorem q_t11 {m t a : Nat} {st : Nat → Nat → Int32} {M : gMem} (L : LSt m t a M) : mT (bC 17 a st M) (t + 11) = 20 := (L.2.2.2.1 11 (by decide) (by decide)).1
theorem q_l11 {m t a : Nat} {st : Nat → Nat → Int32} {M : gMem} (L : LSt m t a M) : mL (bC 17 a st M) (t + 11) = 25 := (L.2.2.2.1 11 (by decide) (by decide)).2
theorem q_T12 {m t a : Nat} {st : Nat → Nat → Int32} {M : gMem} (L : LSt m t a M) : mT (bC 17 a st M) (a + 12) = 20 := (L.2.2.1 12 (by decide) (by decide)).1
theorem q_L12 {m t a : Nat} {st : Nat → Nat → Int32} {M : gMem} (L : LSt m t a M) : mL (bC 17 a st M) (a + 12) = 6 := (L.2.2.1 12 (by decide) (by decide)).2.1
theorem q_R13 {m t a : Nat} {st : Nat → Nat → Int32} {M : gMem} (L : LSt m t a M) : mR (bC 17 a st M) a 13 = some (a + 12) := (L.2.2.1 12 (by decide) (by decide)).2.2
theorem q_t12 {m t a : Nat} {st : Nat → Nat → Int32} {M : gMem} (L : LSt m t a M) : mT (bC 17 a st M) (t + 12) = 20 := (L.2.2.2.1 12 (by decide) (by decide)).1
theorem q_l12 {m t a : Nat} {st : Nat → Nat → Int32} {M : gMem} (L : LSt m t a M) : mL (bC 17 a st M) (t + 12) = 25 := (L.2.2.2.1 12 (by decide) (by decide)).2
theorem q_T13 {m t a : Nat} {st : Nat → Nat → Int32} {M : gMem} (L : LSt m t a M) : mT (bC 17 a st M) (a + 13) = 20 := (L.2.2.1 13 (by decide) (by decide)).1
theorem q_L13 {m t a : Nat} {st : Nat → Nat → Int32} {M : gMem} (L : LSt m t a M) : mL (bC 17 a st M) (a + 13) = 8 := (L.2.2.1 13 (by decide) (by decide)).2.1
theorem q_R14 {m t a : Nat} {st : Nat → Nat → Int32} {M : gMem} (L : LSt m t a M) : mR (bC 17 a st M) a 14 = some (a + 13) := (L.2.2.1 13 (by decide) (by decide)).2.2
theorem q_t13 {m t a : Nat} {st : Nat → Nat → Int32} {M : gMem} (L : LSt m t a M) : mT (bC 17 a st M) (t + 13) = 20 := (L.2.2.2.1 13 (by decide) (by decide)).1
theorem q_l13 {m t a : Nat} {st : Nat → Nat → Int32} {M : gMem} (L : LSt m t a M) : mL (bC 17 a st M) (t + 13) = 7 := (L.2.2.2.1 13 (by decide) (by decide)).2
theorem q_T14 {m t a : Nat} {st : Nat → Nat → Int32} {M : gMem} (L : LSt m t a M) : mT (bC 17 a st M) (a + 14) = 20 := (L.2.2.1 14 (by decide) (by decide)).1
theorem q_L14 {m t a : Nat} {st : Nat → Nat → Int32} {M : gMem} (L : LSt m t a M) : mL (bC 17 a st M) (a + 14) = 8 := (L.2.2.1 14 (by decide) (by decide)).2.1
theorem q_R15 {m t a : Nat} {st : Nat → Nat → Int32} {M : gMem} (L : LSt m t a M) : mR (bC 17 a st M) a 15 = some (a + 14) := (L.2.2.1 14 (by decide) (by decide)).2.2
theorem q_t14 {m t a : Nat} {st : Nat → Nat → Int32} {M : gMem} (L : LSt m t a M) : mT (bC 17 a st M) (t + 14) = 20 := (L.2.2.2.1 14 (by decide) (by decide)).1
theorem q_l14 {m t a : Nat} {st : Nat → Nat → Int32} {M : gMem} (L : LSt m t a M) : mL (bC 17 a st M) (t + 14) = 7 := (L.2.2.2.1 14 (by decide) (by decide)).2
theorem q_T15 {m t a : Nat} {st : Nat → Nat → Int32} {M : gMem} (L : LSt m t a M) : mT (bC 17 a st M) (a + 15) = 20 := (L.2.2.1 15 (by decide) (by decide)).1
theorem q_L15 {m t a : Nat} {st : Nat → Nat → Int32} {M : gMem} (L : LSt m t a M) : mL (bC 17 a st M) (a + 15) = 6 := (L.2.2.1 15 (by decide) (by decide)).2.1
theorem q_R16 {m t a : Nat} {st : Nat → Nat → Int32} {M : gMem} (L : LSt m t a M) : mR (bC 17 a st M) a 16 = some (a + 15) := (L.2.2.1 15 (by decide) (by decide)).2.2
theorem q_t15 {m t a : Nat} {st : Nat → Nat → Int32} {M : gMem} (L : LSt m t a M) : mT (bC 17 a st M) (t + 15) = 20 := (L.2.2.2.1 15 (by decide) (by decide)).1
theorem q_l15 {m t a : Nat} {st : Nat → Nat → Int32} {M : gMem} (L : LSt m t a M) : mL (bC 17 a st M) (t + 15) = 800 := (L.2.2.2.1 15 (by decide) (by decide)).2
theorem q_T16 {m t a : Nat} {st : Nat → Nat → Int32} {M : gMem} (L : LSt m t a M) : mT (bC 17 a st M) (a + 16) = 20 := (L.2.2.1 16 (by decide) (by decide)).1
theorem q_L16 {m t a : Nat} {st : Nat → Nat → Int32} {M : gMem} (L : LSt m t a M) : mL (bC 17 a st M) (a + 16) = 400 := (L.2.2.1 16 (by decide) (by decide)).2.1
theorem q_R17 {m t a : Nat} {st : Nat → Nat → Int32} {M : gMem} (L : LSt m t a M) : mR (bC 17 a st M) a 17 = some (a + 16) := (L.2.2.1 16 (by decide) (by decide)).2.2
theorem q_t16 {m t a : Nat} {st : Nat → Nat → Int32} {M : gMem} (L : LSt m t a M) : mT (bC 17 a st M) (t + 16) = 20 := (L.2.2.2.1 16 (by decide) (by decide)).1
theorem q_l16 {m t a : Nat} {st : Nat → Nat → Int32} {M : gMem} (L : LSt m t a M) : mL (bC 17 a st M) (t + 16) = 400 := (L.2.2.2.1 16 (by decide) (by decide)).2
theorem q_r1 {m t a : Nat} {st : Nat → Nat → Int32} {M : gMem} (L : LSt m t a M) : mR (bC 17 a st M) t 1 = some (t + 1) := L.2.2.2.2 1 (by decide) (by decide)
theorem q_r2 {m t a : Nat} {st : Nat → Nat → Int32} {M : gMem} (L : LSt m t a M) : mR (bC 17 a st M) t 2 = some (t + 2) := L.2.2.2.2 2 (by decide) (by decide)
theorem q_r5 {m t a : Nat} {st : Nat → Nat → Int32} {M : gMem} (L : LSt m t a M) : mR (bC 17 a st M) t 5 = some (t + 3) := L.2.2.2.2 5 (by decide) (by decide)
theorem q_r6 {m t a : Nat} {st : Nat → Nat → Int32} {M : gMem} (L : LSt m t a M) : mR (bC 17 a st M) t 6 = some (t + 4) := L.2.2.2.2 6 (by decide) (by decide)
theorem q_r7 {m t a : Nat} {st : Nat → Nat → Int32} {M : gMem} (L : LSt m t a M) : mR (bC 17 a st M) t 7 = some (t + 5) := L.2.2.2.2 7 (by decide) (by decide)
theorem q_r9 {m t a : Nat} {st : Nat → Nat → Int32} {M : gMem} (L : LSt m t a M) : mR (bC 17 a st M) t 9 = some (t + 6) := L.2.2.2.2 9 (by decide) (by decide)
theorem q_r10 {m t a : Nat} {st : Nat → Nat → Int32} {M : gMem} (L : LSt m t a M) : mR (bC 17 a st M) t 10 = some (t + 7) := L.2.2.2.2 10 (by decide) (by decide)
theorem q_r12 {m t a : Nat} {st : Nat → Nat → Int32} {M : gMem} (L : LSt m t a M) : mR (bC 17 a st M) t 12 = some (t + 8) := L.2.2.2.2 12 (by decide) (by decide)
theorem q_r13 {m t a : Nat} {st : Nat → Nat → Int32} {M : gMem} (L : LSt m t a M) : mR (bC 17 a st M) t 13 = some (t + 9) := L.2.2.2.2 13 (by decide) (by decide)
theorem q_r14 {m t a : Nat} {st : Nat → Nat → Int32} {M : gMem} (L : LSt m t a M) : mR (bC 17 a st M) t 14 = some (t + 10) := L.2.2.2.2 14 (by decide) (by decide)
theorem q_r17 {m t a : Nat} {st : Nat → Nat → Int32} {M : gMem} (L : LSt m t a M) : mR (bC 17 a st M) t 17 = some (t + 11) := L.2.2.2.2 17 (by decide) (by decide)
theorem q_r18 {m t a : Nat} {st : Nat → Nat → Int32} {M : gMem} (L : LSt m t a M) : mR (bC 17 a st M) t 18 = some (t + 12) := L.2.2.2.2 18 (by decide) (by decide)
theorem q_r19 {m t a : Nat} {st : Nat → Nat → Int32} {M : gMem} (L : LSt m t a M) : mR (bC 17 a st M) t 19 = some (t + 13) := L.2.2.2.2 19 (by decide) (by decide)
theorem q_r20 {m t a : Nat} {st : Nat → Nat → Int32} {M : gMem} (L : LSt m t a M) : mR (bC 17 a st M) t 20 = some (t + 14) := L.2.2.2.2 20 (by decide) (by decide)
theorem q_r21 {m t a : Nat} {st : Nat → Nat → Int32} {M : gMem} (L : LSt m t a M) : mR (bC 17 a st M) t 21 = some (t + 15) := L.2.2.2.2 21 (by decide) (by decide)
theorem q_r23 {m t a : Nat} {st : Nat → Nat → Int32} {M : gMem} (L : LSt m t a M) : mR (bC 17 a st M) t 23 = some (t + 16) := L.2.2.2.2 23 (by decide) (by decide)
theorem q_I {k : Nat} {m t a : Nat} {st : Nat → Nat → Int32} {M : gMem} (L : LSt m t a M) : mI (bC 17 a st M) t k = mI M t k := bC_Io (by have := L.2.1; omega)
theorem q_Ij {j k : Nat} {m t a : Nat} {st : Nat → Nat → Int32} {M : gMem} (L : LSt m t a M) (h : j < 17) : mI (bC 17 a st M) (t + j) k = mI M (t + j) k := bC_Io (by have := L.2.1; omega)

