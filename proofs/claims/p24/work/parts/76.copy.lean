/-! ## Pure: copies of a ground, a fisher, a go, a pact -/
def wL (a b : Nat) : List Nat → gMem → gMem
  | [], M => M
  | k :: t, M => wL a b t (wI M a k (mI M b k))
theorem wL_s {a b : Nat} (hab : a ≠ b) : ∀ (l : List Nat) (M : gMem), wL a b l M = sI M (fun c k => if c = a ∧ k ∈ l then mI M b k else mI M c k)
  | [], M => by
    show M = sI M _
    conv => lhs; rw [← sI_self M]
    congr 1
    funext c k
    rw [if_neg (fun h => by cases h.2)]
  | j :: t, M => by
    rw [wL, wL_s hab t, wI_sI, sI_sI]
    congr 1
    funext c k
    show (if c = a ∧ k ∈ t then up2 (mI M) a j (mI M b j) b k else up2 (mI M) a j (mI M b j) c k) = _
    rw [up2_ne (.inl (Ne.symm hab))]
    by_cases h1 : c = a ∧ k ∈ t
    · rw [if_pos h1, if_pos ⟨h1.1, List.mem_cons_of_mem _ h1.2⟩]
    · rw [if_neg h1]
      by_cases h2 : c = a ∧ k = j
      · rw [if_pos ⟨h2.1, by rw [h2.2]; exact List.mem_cons_self⟩, h2.1, h2.2, up2_eq]
      · rw [if_neg (fun h => by
          rcases List.mem_cons.mp h.2 with e | e
          · exact h2 ⟨h.1, e⟩
          · exact h1 ⟨h.1, e⟩), up2_ne (by omega)]
/-- the ints of a and a + 1 that S names are those of b and b + 1 -/
def cpS (S : Nat → Nat → Bool) (a b : Nat) (M : gMem) : gMem := sI M (fun c k => if (c = a ∨ c = a + 1) ∧ S (c - a) k = true then mI M (b + (c - a)) k else mI M c k)
/-- the places i to j - 1 of the row A are those of B -/
def cpR (A B i j : Nat) (M : gMem) : gMem := uI M A (fun k => if i ≤ k ∧ k < j then mI M B k else mI M A k)
theorem cpR_0 {A B i : Nat} {M : gMem} : cpR A B i i M = M := by
  unfold cpR
  have e : (fun k => if i ≤ k ∧ k < i then mI M B k else mI M A k) = mI M A := by
    funext k
    rw [if_neg (by omega)]
  rw [e]
  show (mT M, mL M, up1 (mI M) A (mI M A), mR M, mJ M, mN M) = M
  have e2 : up1 (mI M) A (mI M A) = mI M := by
    funext c
    unfold up1
    split
    · rename_i h; rw [h]
    · rfl
  rw [e2]
theorem cpR_s {A B i j : Nat} {M : gMem} (h : A ≠ B) (hj : i ≤ j) : wI (cpR A B i j M) A j (mI (cpR A B i j M) B j) = cpR A B i (j + 1) M := by
  unfold cpR
  rw [wI_u, uI_u, uI_I, uI_o (Ne.symm h)]
  congr 1
  funext k
  by_cases e : k = j
  · subst e; rw [up1_e, if_pos (by omega)]
  · rw [up1_o e]
    by_cases c : i ≤ k ∧ k < j
    · rw [if_pos c, if_pos (by omega)]
    · rw [if_neg c, if_neg (by omega)]
theorem cpS_wR {a b i j : Nat} {l : List Nat} {S : Nat → Nat → Bool} {M : gMem} (h : a + 2 ≤ b ∨ b + 2 ≤ a) (h0 : ∀ k, S 0 k = true ↔ k ∈ l) (h1 : ∀ k, S 1 k = true ↔ i ≤ k ∧ k < j) : cpR (a + 1) (b + 1) i j (wL a b l M) = cpS S a b M := by
  rw [wL_s (by omega)]
  unfold cpR cpS uI
  show sI M _ = sI M _
  congr 1
  funext c k
  show up1 (fun c k => if c = a ∧ k ∈ l then mI M b k else mI M c k) (a + 1) (fun k => if i ≤ k ∧ k < j then (if b + 1 = a ∧ k ∈ l then mI M b k else mI M (b + 1) k) else (if a + 1 = a ∧ k ∈ l then mI M b k else mI M (a + 1) k)) c k = _
  by_cases c1 : c = a + 1
  · subst c1
    rw [up1_e, show a + 1 - a = 1 by omega]
    by_cases c2 : i ≤ k ∧ k < j
    · rw [if_pos c2, if_neg (show ¬ (b + 1 = a ∧ k ∈ l) by omega), if_pos (show (a + 1 = a ∨ a + 1 = a + 1) ∧ S 1 k = true from ⟨.inr rfl, (h1 k).mpr c2⟩)]
    · rw [if_neg c2, if_neg (show ¬ (a + 1 = a ∧ k ∈ l) by omega), if_neg (show ¬ ((a + 1 = a ∨ a + 1 = a + 1) ∧ S 1 k = true) from fun z => c2 ((h1 k).mp z.2))]
  · rw [up1_o c1]
    by_cases c2 : c = a
    · subst c2
      rw [Nat.sub_self]
      by_cases c3 : k ∈ l
      · rw [if_pos ⟨rfl, c3⟩, if_pos ⟨.inl rfl, (h0 k).mpr c3⟩, Nat.add_zero]
      · rw [if_neg (fun z => c3 z.2), if_neg (fun z => c3 ((h0 k).mp z.2))]
    · rw [if_neg (fun z => c2 z.1), if_neg (fun z => z.1.elim c2 c1)]
def sG (d k : Nat) : Bool := if d = 0 then decide (k < 3) else decide (1 ≤ k ∧ k < 6)
def sF (d k : Nat) : Bool := if d = 0 then decide (k < 10) else decide (k < 8)
def sP (d k : Nat) : Bool := if d = 0 then decide (k < 4 ∨ (5 ≤ k ∧ k < 8)) else decide (k < 8)
def sO (d k : Nat) : Bool := if d = 0 then decide (k < 4) else false
theorem s3_copy {M : gMem} {a b : Nat} (h : a + 2 ≤ b ∨ b + 2 ≤ a) (ta : mT M a = 3) (tb : mT M b = 3) (ra : mR M a 3 = some (a + 1)) (rb : mR M b 3 = some (b + 1)) (ta1 : mT M (a + 1) = 20) (tb1 : mT M (b + 1) = 20) (la : mL M (a + 1) = 6) (lb : mL M (b + 1) = 6) : f_X3_copyFrom M a (some b) = some ((), cpS sG a b M) := by
  unfold f_X3_copyFrom b_X3_copyFrom_0 lp_X3_copyFrom_26
  rw [dr_S, ck_t tb, ck_t ta]
  show lp (fun (q : gMem × Int32) => bb_X3_copyFrom_26 q.1 a (some b) q.2) (wL a b [0, 1, 2] M, nI 1) = _
  have key := lp_seq (f := fun (q : gMem × Int32) => bb_X3_copyFrom_26 q.1 a (some b) q.2) (fun j => (cpR (a + 1) (b + 1) 1 j (wL a b [0, 1, 2] M), nI j)) 1 6 (b := ((), cpS sG a b M)) (by omega) (fun j j1 j2 => ?_) ?_
  · simp only [cpR_0] at key
    exact key
  · have q1 : ¬ (5 : Int32) < nI j := fun z => by have := (nI_ltI (a := 5) (by omega) (by omega)).mp z; omega
    have q2 : inb (nI j) 6 := (inbN (by omega)).mpr j2
    have es := cpR_s (A := a + 1) (B := b + 1) (i := 1) (M := wL a b [0, 1, 2] M) (by omega) j1
    show bb_X3_copyFrom_26 (cpR (a + 1) (b + 1) 1 j (wL a b [0, 1, 2] M)) a (some b) (nI j) = some (.inl (cpR (a + 1) (b + 1) 1 (j + 1) (wL a b [0, 1, 2] M), nI (j + 1)))
    rw [← es]
    have hT : mT (cpR (a + 1) (b + 1) 1 j (wL a b [0, 1, 2] M)) = mT M := rfl
    have hL : mL (cpR (a + 1) (b + 1) 1 j (wL a b [0, 1, 2] M)) = mL M := rfl
    have hR : mR (cpR (a + 1) (b + 1) 1 j (wL a b [0, 1, 2] M)) = mR M := rfl
    generalize cpR (a + 1) (b + 1) 1 j (wL a b [0, 1, 2] M) = M1 at hT hL hR
    rw [← hT] at ta tb ta1 tb1
    rw [← hL] at la lb
    rw [← hR] at ra rb
    unfold bb_X3_copyFrom_26
    rw [if_neg q1, ck_t ta, dr_S, ck_t tb, rb, dr_S, ck_t tb1, lb, ck_t q2, ra, dr_S, ck_t ta1, la, ck_t q2, nI_clamp (by omega), lw_S, nI_1]
  · show bb_X3_copyFrom_26 (cpR (a + 1) (b + 1) 1 6 (wL a b [0, 1, 2] M)) a (some b) (nI 6) = _
    unfold bb_X3_copyFrom_26
    rw [if_pos (by decide), cpS_wR (S := sG) h (fun k => by unfold sG; simp; omega) (fun k => by unfold sG; simp)]
    rfl
theorem s1_copy {M : gMem} {a b : Nat} (h : a + 2 ≤ b ∨ b + 2 ≤ a) (ta : mT M a = 1) (tb : mT M b = 1) (ra : mR M a 10 = some (a + 1)) (rb : mR M b 10 = some (b + 1)) (ta1 : mT M (a + 1) = 20) (tb1 : mT M (b + 1) = 20) (la : mL M (a + 1) = 8) (lb : mL M (b + 1) = 8) (h9 : mI M b 9 = 0 ∨ mI M b 9 = 1) : f_X1_copyFrom M a (some b) = some ((), cpS sF a b M) := by
  unfold f_X1_copyFrom b_X1_copyFrom_0 lp_X1_copyFrom_82
  rw [dr_S, ck_t tb, ck_t ta]
  have e9 : mI (wL a b [0, 1, 2, 3, 4, 5, 6, 7, 8] M) b 9 = 0 ∨ mI (wL a b [0, 1, 2, 3, 4, 5, 6, 7, 8] M) b 9 = 1 := by
    rw [wL_s (by omega)]
    rw [show mI (sI M (fun c k => if c = a ∧ k ∈ [0, 1, 2, 3, 4, 5, 6, 7, 8] then mI M b k else mI M c k)) b 9 = mI M b 9 from if_neg (fun z => by have := z.1; omega)]
    exact h9
  refine (ck_t e9).trans ?_
  show lp (fun (q : gMem × Int32) => bb_X1_copyFrom_82 q.1 a (some b) q.2) (wL a b [0, 1, 2, 3, 4, 5, 6, 7, 8, 9] M, nI 0) = _
  have key := lp_seq (f := fun (q : gMem × Int32) => bb_X1_copyFrom_82 q.1 a (some b) q.2) (fun j => (cpR (a + 1) (b + 1) 0 j (wL a b [0, 1, 2, 3, 4, 5, 6, 7, 8, 9] M), nI j)) 0 8 (b := ((), cpS sF a b M)) (by omega) (fun j j1 j2 => ?_) ?_
  · simp only [cpR_0] at key
    exact key
  · have q1 : ¬ (8 : Int32) ≤ nI j := fun z => by have := (nI_leI (a := 8) (by omega) (by omega)).mp z; omega
    have q2 : inb (nI j) 8 := (inbN (by omega)).mpr j2
    have es := cpR_s (A := a + 1) (B := b + 1) (i := 0) (M := wL a b [0, 1, 2, 3, 4, 5, 6, 7, 8, 9] M) (by omega) j1
    show bb_X1_copyFrom_82 (cpR (a + 1) (b + 1) 0 j (wL a b [0, 1, 2, 3, 4, 5, 6, 7, 8, 9] M)) a (some b) (nI j) = some (.inl (cpR (a + 1) (b + 1) 0 (j + 1) (wL a b [0, 1, 2, 3, 4, 5, 6, 7, 8, 9] M), nI (j + 1)))
    rw [← es]
    have hT : mT (cpR (a + 1) (b + 1) 0 j (wL a b [0, 1, 2, 3, 4, 5, 6, 7, 8, 9] M)) = mT M := rfl
    have hL : mL (cpR (a + 1) (b + 1) 0 j (wL a b [0, 1, 2, 3, 4, 5, 6, 7, 8, 9] M)) = mL M := rfl
    have hR : mR (cpR (a + 1) (b + 1) 0 j (wL a b [0, 1, 2, 3, 4, 5, 6, 7, 8, 9] M)) = mR M := rfl
    generalize cpR (a + 1) (b + 1) 0 j (wL a b [0, 1, 2, 3, 4, 5, 6, 7, 8, 9] M) = M1 at hT hL hR
    rw [← hT] at ta tb ta1 tb1
    rw [← hL] at la lb
    rw [← hR] at ra rb
    unfold bb_X1_copyFrom_82
    rw [if_neg q1, ck_t ta, dr_S, ck_t tb, rb, dr_S, ck_t tb1, lb, ck_t q2, ra, dr_S, ck_t ta1, la, ck_t q2, nI_clamp (by omega), lw_S, nI_1]
  · show bb_X1_copyFrom_82 (cpR (a + 1) (b + 1) 0 8 (wL a b [0, 1, 2, 3, 4, 5, 6, 7, 8, 9] M)) a (some b) (nI 8) = _
    unfold bb_X1_copyFrom_82
    rw [if_pos (by decide), cpS_wR (S := sF) h (fun k => by unfold sF; simp; omega) (fun k => by unfold sF; simp)]
    rfl
theorem s5_copy {M : gMem} {a b : Nat} (h : a + 2 ≤ b ∨ b + 2 ≤ a) (ta : mT M a = 5) (tb : mT M b = 5) (ra : mR M a 4 = some (a + 1)) (rb : mR M b 4 = some (b + 1)) (ta1 : mT M (a + 1) = 20) (tb1 : mT M (b + 1) = 20) (la : mL M (a + 1) = 8) (lb : mL M (b + 1) = 8) : f_X5_copyFrom M a (some b) = some ((), cpS sP a b M) := by
  unfold f_X5_copyFrom b_X5_copyFrom_0 lp_X5_copyFrom_58
  rw [dr_S, ck_t tb, ck_t ta]
  show lp (fun (q : gMem × Int32) => bb_X5_copyFrom_58 q.1 a (some b) q.2) (wL a b [0, 1, 2, 3, 5, 6, 7] M, nI 0) = _
  have key := lp_seq (f := fun (q : gMem × Int32) => bb_X5_copyFrom_58 q.1 a (some b) q.2) (fun j => (cpR (a + 1) (b + 1) 0 j (wL a b [0, 1, 2, 3, 5, 6, 7] M), nI j)) 0 8 (b := ((), cpS sP a b M)) (by omega) (fun j j1 j2 => ?_) ?_
  · simp only [cpR_0] at key
    exact key
  · have q1 : ¬ (8 : Int32) ≤ nI j := fun z => by have := (nI_leI (a := 8) (by omega) (by omega)).mp z; omega
    have q2 : inb (nI j) 8 := (inbN (by omega)).mpr j2
    have es := cpR_s (A := a + 1) (B := b + 1) (i := 0) (M := wL a b [0, 1, 2, 3, 5, 6, 7] M) (by omega) j1
    show bb_X5_copyFrom_58 (cpR (a + 1) (b + 1) 0 j (wL a b [0, 1, 2, 3, 5, 6, 7] M)) a (some b) (nI j) = some (.inl (cpR (a + 1) (b + 1) 0 (j + 1) (wL a b [0, 1, 2, 3, 5, 6, 7] M), nI (j + 1)))
    rw [← es]
    have hT : mT (cpR (a + 1) (b + 1) 0 j (wL a b [0, 1, 2, 3, 5, 6, 7] M)) = mT M := rfl
    have hL : mL (cpR (a + 1) (b + 1) 0 j (wL a b [0, 1, 2, 3, 5, 6, 7] M)) = mL M := rfl
    have hR : mR (cpR (a + 1) (b + 1) 0 j (wL a b [0, 1, 2, 3, 5, 6, 7] M)) = mR M := rfl
    generalize cpR (a + 1) (b + 1) 0 j (wL a b [0, 1, 2, 3, 5, 6, 7] M) = M1 at hT hL hR
    rw [← hT] at ta tb ta1 tb1
    rw [← hL] at la lb
    rw [← hR] at ra rb
    unfold bb_X5_copyFrom_58
    rw [if_neg q1, ck_t ta, dr_S, ck_t tb, rb, dr_S, ck_t tb1, lb, ck_t q2, ra, dr_S, ck_t ta1, la, ck_t q2, nI_clamp (by omega), lw_S, nI_1]
  · show bb_X5_copyFrom_58 (cpR (a + 1) (b + 1) 0 8 (wL a b [0, 1, 2, 3, 5, 6, 7] M)) a (some b) (nI 8) = _
    unfold bb_X5_copyFrom_58
    rw [if_pos (by decide), cpS_wR (S := sP) h (fun k => by unfold sP; simp; omega) (fun k => by unfold sP; simp)]
    rfl
theorem s2_copy {M : gMem} {a b : Nat} (h : a + 2 ≤ b ∨ b + 2 ≤ a ∨ True) (hab : a ≠ b) (ta : mT M a = 2) (tb : mT M b = 2) : f_X2_copyFrom M a (some b) = some ((), wL a b [0, 1, 2, 3] M) := by
  unfold f_X2_copyFrom b_X2_copyFrom_0
  rw [dr_S, ck_t tb, ck_t ta]
  rfl

