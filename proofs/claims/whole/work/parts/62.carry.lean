/-! ## Pure: the reference carries out its code -/
/-- the reference's word for a sign of a sum; how many ints it takes; the height of the stack behind it -/
def opc (g : Nat) : Nat := if g = 41 then 30 else if g = 44 then 31 else if 31 ≤ g ∧ g ≤ 39 then g + 1 else g
def isPO (g : Nat) : Prop := g = 41 ∨ g = 2 ∨ g = 4 ∨ g = 16 ∨ g = 17 ∨ g = 18 ∨ g = 19
def isBi (g : Nat) : Prop := g = 21 ∨ g = 22 ∨ g = 23 ∨ g = 24 ∨ g = 31 ∨ g = 32 ∨ g = 33 ∨ g = 34 ∨ g = 35 ∨ g = 36 ∨ g = 37 ∨ g = 38 ∨ g = 39
def wd (g : Nat) : Nat := if g = 41 ∨ g = 2 ∨ g = 4 ∨ g = 16 ∨ g = 17 ∨ g = 18 ∨ g = 19 then 2 else 1
def hgS (g h : Nat) : Nat := if g = 41 ∨ g = 2 ∨ g = 4 ∨ g = 15 ∨ g = 16 ∨ g = 17 ∨ g = 18 ∨ g = 19 then h + 1 else if g = 20 ∨ g = 44 then h else h - 1
def hgt (pg : Nat → Nat) (s : Nat) : Nat → Nat
  | 0 => 0
  | j + 1 => hgS (pg (s + j)) (hgt pg s j)
def wds (pg : Nat → Nat) (s : Nat) : Nat → Nat
  | 0 => 0
  | j + 1 => wds pg s j + wd (pg (s + j))
theorem hgt_le {pg : Nat → Nat} {s : Nat} : ∀ j, hgt pg s j ≤ j
  | 0 => Nat.le_refl _
  | j + 1 => by
    have := hgt_le (pg := pg) (s := s) j
    unfold hgt hgS
    split
    · omega
    · split <;> omega
theorem wds_le {pg : Nat → Nat} {s : Nat} : ∀ d j, wds pg s j + d ≤ wds pg s (j + d)
  | 0, _ => Nat.le_refl _
  | d + 1, j => by
    have := wds_le (pg := pg) (s := s) d j
    have h1 : 1 ≤ wd (pg (s + (j + d))) := by unfold wd; split <;> omega
    show wds pg s j + (d + 1) ≤ wds pg s (j + d) + wd (pg (s + (j + d)))
    omega
/-- a sign with its value v, at the height h, as the ints of the code at c have it -/
def cdOK (F G g h : Nat) (v : Int32) (code : Nat → Int32) (c : Nat) : Prop :=
  code c = nI (opc g) ∧ ((isPO g ∧ code (c + 1) = v ∧ ((g = 2 ∨ g = 18) → ∃ j, j < G ∧ v = nI j) ∧ ((g = 4 ∨ g = 16 ∨ g = 17 ∨ g = 19) → ∃ j, j < F ∧ v = nI j)) ∨ g = 15 ∨ ((g = 20 ∨ g = 44) ∧ 1 ≤ h) ∨ (isBi g ∧ 2 ≤ h))
/-- n signs from s on stand in the code from c on -/
def CD (pg : Nat → Nat) (vs : Nat → Int32) (code : Nat → Int32) (F G s n c : Nat) : Prop := ∀ j, j < n → cdOK F G (pg (s + j)) (hgt pg s j) (vs (s + j)) code (c + wds pg s j)
/-- a State has what a sum looks at -/
def RE (A st : Nat → Nat → Int32) (F G : Nat) : Prop :=
  st 0 0 = A 0 0 ∧ (∀ g k, g < G → k < 5 → st 1 (5 * g + k) = A (19 + 2 * g) (k + 1)) ∧ (∀ g, g < G → st 2 g = A (18 + 2 * g) 1) ∧
  ∀ f, f < F → st 4 f = A (34 + 2 * f) 1 ∧ st 5 f = A (34 + 2 * f) 4 ∧ st 6 f = A (34 + 2 * f) 5 ∧ st 9 f = A (34 + 2 * f) 9 ∧ (A (34 + 2 * f) 9 = 0 ∨ A (34 + 2 * f) 9 = 1)
theorem RE_c {A st st' : Nat → Nat → Int32} {F G : Nat} (R : RE A st F G) (h : ∀ d, d ≠ 16 → st' d = st d) : RE A st' F G := by
  unfold RE
  rw [h 0 (by omega), h 1 (by omega), h 2 (by omega), h 4 (by omega), h 5 (by omega), h 6 (by omega), h 9 (by omega)]
  exact R
theorem nI_ne {a b : Nat} (h : a ≠ b) (ha : a < 2 ^ 31) (hb : b < 2 ^ 31) : ¬ nI a = nI b := fun e => h ((nI_eq ha hb).mp e)
theorem r_pushed {m t a F G g : Nat} {A st : Nat → Nat → Int32} {v : Int32} {M : gMem} (L : LSt m t a M) (R : RE A st F G) (hF : F ≤ 8) (hG : G ≤ 8) (hg : isPO g) (h1 : (g = 2 ∨ g = 18) → ∃ j, j < G ∧ v = nI j) (h2 : (g = 4 ∨ g = 16 ∨ g = 17 ∨ g = 19) → ∃ j, j < F ∧ v = nI j) : f_X12_pushed (bC 17 a st M) a (nI (opc g)) v = some (valN A g v, bC 17 a st M) := by
  obtain ⟨-, R1, R2, R3⟩ := R
  unfold isPO at hg
  unfold f_X12_pushed b_X12_pushed_0
  rcases hg with rfl | rfl | rfl | rfl | rfl | rfl | rfl
  · have e : opc 41 = 30 := rfl
    have q1 : ¬ nI 30 = (2 : Int32) := by decide
    have q2 : ¬ nI 30 = (4 : Int32) := by decide
    have q3 : ¬ nI 30 = (16 : Int32) := by decide
    have q4 : ¬ nI 30 = (17 : Int32) := by decide
    have q5 : ¬ nI 30 = (18 : Int32) := by decide
    have q6 : nI 30 = (30 : Int32) := rfl
    rw [e, if_neg q1, if_neg q2, if_neg q3, if_neg q4, if_neg q5, if_pos q6]
    all_goals ((try simp only [lw_S, nI_1]); (try rfl))
  · obtain ⟨j, hj, rfl⟩ := h1 (.inl rfl)
    have e : opc 2 = 2 := rfl
    have q1 : nI 2 = (2 : Int32) := rfl
    have ev : valN A 2 (nI j) = sum5 (A (19 + 2 * (nI j).toNatClampNeg)) 5 := rfl
    rw [e, if_pos q1, ck_t (q_T L), r_fishAt L (by omega), bd_S, ev, nI_clamp (by omega), ← sum5_N 5 (fun k hk => (R1 j k hj hk).symm)]
  · obtain ⟨j, hj, rfl⟩ := h2 (.inl rfl)
    have e : opc 4 = 4 := rfl
    have q1 : ¬ nI 4 = (2 : Int32) := by decide
    have q2 : nI 4 = (4 : Int32) := rfl
    have q3 : inb (nI j) 8 := (inbN (by omega)).mpr (by omega)
    have ev : valN A 4 (nI j) = A (34 + 2 * (nI j).toNatClampNeg) 1 := rfl
    rw [e, if_neg q1, if_pos q2, ck_t (q_T L), dr_s (q_R5 L), ck_t (q_T4 L), q_L4 L, ck_t q3, ev, nI_clamp (by omega), bC_I (by omega), (R3 j hj).1]
  · obtain ⟨j, hj, rfl⟩ := h2 (.inr (.inl rfl))
    have e : opc 16 = 16 := rfl
    have q1 : ¬ nI 16 = (2 : Int32) := by decide
    have q2 : ¬ nI 16 = (4 : Int32) := by decide
    have q4 : nI 16 = (16 : Int32) := rfl
    have q3 : inb (nI j) 8 := (inbN (by omega)).mpr (by omega)
    have ev : valN A 16 (nI j) = A (34 + 2 * (nI j).toNatClampNeg) 4 := rfl
    rw [e, if_neg q1, if_neg q2, if_pos q4, ck_t (q_T L), dr_s (q_R6 L), ck_t (q_T5 L), q_L5 L, ck_t q3, ev, nI_clamp (by omega), bC_I (by omega), (R3 j hj).2.1]
  · obtain ⟨j, hj, rfl⟩ := h2 (.inr (.inr (.inl rfl)))
    have e : opc 17 = 17 := rfl
    have q1 : ¬ nI 17 = (2 : Int32) := by decide
    have q2 : ¬ nI 17 = (4 : Int32) := by decide
    have q4 : ¬ nI 17 = (16 : Int32) := by decide
    have q5 : nI 17 = (17 : Int32) := rfl
    have q3 : inb (nI j) 8 := (inbN (by omega)).mpr (by omega)
    have ev : valN A 17 (nI j) = A (34 + 2 * (nI j).toNatClampNeg) 5 := rfl
    rw [e, if_neg q1, if_neg q2, if_neg q4, if_pos q5, ck_t (q_T L), dr_s (q_R7 L), ck_t (q_T6 L), q_L6 L, ck_t q3, ev, nI_clamp (by omega), bC_I (by omega), (R3 j hj).2.2.1]
  · obtain ⟨j, hj, rfl⟩ := h1 (.inr rfl)
    have e : opc 18 = 18 := rfl
    have q1 : ¬ nI 18 = (2 : Int32) := by decide
    have q2 : ¬ nI 18 = (4 : Int32) := by decide
    have q4 : ¬ nI 18 = (16 : Int32) := by decide
    have q5 : ¬ nI 18 = (17 : Int32) := by decide
    have q6 : nI 18 = (18 : Int32) := rfl
    have q3 : inb (nI j) 8 := (inbN (by omega)).mpr (by omega)
    have ev : valN A 18 (nI j) = A (18 + 2 * (nI j).toNatClampNeg) 1 := rfl
    rw [e, if_neg q1, if_neg q2, if_neg q4, if_neg q5, if_pos q6, ck_t (q_T L), dr_s (q_R3 L), ck_t (q_T2 L), q_L2 L, ck_t q3, ev, nI_clamp (by omega), bC_I (by omega), R2 j hj]
  · obtain ⟨j, hj, rfl⟩ := h2 (.inr (.inr (.inr rfl)))
    have e : opc 19 = 19 := rfl
    have q1 : ¬ nI 19 = (2 : Int32) := by decide
    have q2 : ¬ nI 19 = (4 : Int32) := by decide
    have q4 : ¬ nI 19 = (16 : Int32) := by decide
    have q5 : ¬ nI 19 = (17 : Int32) := by decide
    have q6 : ¬ nI 19 = (18 : Int32) := by decide
    have q7 : ¬ nI 19 = (30 : Int32) := by decide
    have q3 : inb (nI j) 8 := (inbN (by omega)).mpr (by omega)
    have ev : valN A 19 (nI j) = if A (34 + 2 * (nI j).toNatClampNeg) 9 = 0 then 0 else 1 := rfl
    rw [e, if_neg q1, if_neg q2, if_neg q4, if_neg q5, if_neg q6, if_neg q7, ck_t (q_T L), dr_s (q_R10 L), ck_t (q_T9 L), q_L9 L, ck_t q3, ev, nI_clamp (by omega), bC_I (by omega), (R3 j hj).2.2.2.1]
    rcases (R3 j hj).2.2.2.2 with h | h
    · rw [h]; rfl
    · rw [h]; rfl
theorem r_isIn {M : gMem} {x y z : Nat} (hx : x < 2 ^ 31) (hy : y < 2 ^ 31) (hz : z < 2 ^ 31) : f_X14_isIn M (nI x) (nI y) (nI z) = some (if y ≤ x ∧ x ≤ z then 1 else 0, M) := by
  unfold f_X14_isIn b_X14_isIn_0 b_X14_isIn_14 b_X14_isIn_15
  by_cases c1 : x < y
  · rw [if_pos ((nI_ltI hx hy).mpr c1), ck_t (.inl rfl), if_neg (by omega)]
  · rw [if_neg fun q => c1 ((nI_ltI hx hy).mp q)]
    by_cases c2 : z < x
    · rw [if_pos ((nI_ltI hz hx).mpr c2), ck_t (.inl rfl), if_neg (by omega)]
    · rw [if_neg fun q => c2 ((nI_ltI hz hx).mp q), ck_t (.inr rfl), if_pos (by omega)]
theorem r_isPushed {M : gMem} {x : Nat} (hx : x < 2 ^ 31) : f_X14_isPushed M (nI x) = some (if x = 30 ∨ x = 2 ∨ x = 4 ∨ (15 ≤ x ∧ x ≤ 19) then 1 else 0, M) := by
  have n1 : ¬ (1 : Int32) = 0 := by decide
  have k30 : nI x = (30 : Int32) ↔ x = 30 := nI_eq (b := 30) hx (by omega)
  have k2 : nI x = (2 : Int32) ↔ x = 2 := nI_eq (b := 2) hx (by omega)
  have k4 : nI x = (4 : Int32) ↔ x = 4 := nI_eq (b := 4) hx (by omega)
  have ki : f_X14_isIn M (nI x) (15 : Int32) (19 : Int32) = some (if 15 ≤ x ∧ x ≤ 19 then 1 else 0, M) := r_isIn (y := 15) (z := 19) hx (by omega) (by omega)
  unfold f_X14_isPushed b_X14_isPushed_0 b_X14_isPushed_27 b_X14_isPushed_32
  by_cases c1 : x = 30
  · rw [if_pos (k30.mpr c1), ck_t (.inr rfl), if_pos (by omega)]
  · rw [if_neg fun z => c1 (k30.mp z)]
    by_cases c2 : x = 2
    · rw [if_pos (k2.mpr c2), ck_t (.inr rfl), if_pos (by omega)]
    · rw [if_neg fun z => c2 (k2.mp z)]
      by_cases c3 : x = 4
      · rw [if_pos (k4.mpr c3), ck_t (.inr rfl), if_pos (by omega)]
      · rw [if_neg fun z => c3 (k4.mp z), ki, bd_S]
        by_cases c4 : 15 ≤ x ∧ x ≤ 19
        · rw [if_pos c4, if_pos (show x = 30 ∨ x = 2 ∨ x = 4 ∨ (15 ≤ x ∧ x ≤ 19) by omega), if_neg n1, ck_t (.inr rfl)]
        · rw [if_neg c4, if_neg (show ¬ (x = 30 ∨ x = 2 ∨ x = 4 ∨ (15 ≤ x ∧ x ≤ 19)) by omega), if_pos rfl, ck_t (.inl rfl)]
theorem r_both {M : gMem} {g : Nat} {x y : Int32} (hg : isBi g) : f_X14_both M (nI (opc g)) x y = some (cmbN g x y, M) := by
  unfold isBi at hg
  unfold f_X14_both b_X14_both_0 b_X14_both_191 b_X14_both_186 b_X14_both_175 b_X14_both_164 b_X14_both_153 b_X14_both_142 b_X14_both_119
  rcases hg with rfl | rfl | rfl | rfl | rfl | rfl | rfl | rfl | rfl | rfl | rfl | rfl | rfl
  · rw [show nI (opc 21) = 21 from rfl, show cmbN 21 x y = x &&& y from rfl]; simp
  · rw [show nI (opc 22) = 22 from rfl, show cmbN 22 x y = x ||| y from rfl]; simp
  · rw [show nI (opc 23) = 23 from rfl, show cmbN 23 x y = imin x y from rfl]; simp
  · rw [show nI (opc 24) = 24 from rfl, show cmbN 24 x y = imax x y from rfl]; simp
  · rw [show nI (opc 31) = 32 from rfl, show cmbN 31 x y = x + y from rfl]; simp
  · rw [show nI (opc 32) = 33 from rfl, show cmbN 32 x y = x - y from rfl]; simp
  · rw [show nI (opc 33) = 34 from rfl, show cmbN 33 x y = x * y from rfl]; simp
  · rw [show nI (opc 34) = 35 from rfl, show cmbN 34 x y = (if y = 0 then 0 else x / y) from rfl]
    by_cases c : y = 0 <;> simp [c, ck]
  · rw [show nI (opc 35) = 36 from rfl, show cmbN 35 x y = (if y ≤ x then 0 else 1) from rfl]
    by_cases c : y ≤ x <;> simp [c]
  · rw [show nI (opc 36) = 37 from rfl, show cmbN 36 x y = (if x ≤ y then 0 else 1) from rfl]
    by_cases c : x ≤ y <;> simp [c]
  · rw [show nI (opc 37) = 38 from rfl, show cmbN 37 x y = (if x = y then 1 else 0) from rfl]
    by_cases c : x = y <;> simp [c]
  · rw [show nI (opc 38) = 39 from rfl, show cmbN 38 x y = (if y < x then 0 else 1) from rfl]
    by_cases c : y < x <;> simp [c]
  · rw [show nI (opc 39) = 40 from rfl, show cmbN 39 x y = (if x < y then 0 else 1) from rfl]
    by_cases c : x < y <;> simp [c]
/-- the place of the top of a stack of h values -/
theorem top_1 (h : Nat) : nI h + (-1 : Int32) + (1 : Int32) = nI h := by
  rw [Int32.add_assoc, show ((-1 : Int32) + 1) = 0 by decide, Int32.add_zero]
theorem top_s (h : Nat) : nI (h + 1) + (-1 : Int32) = nI h := dn1 (by omega)
/-- the class's signs of each kind -/
theorem rk1_po {pg : Nat → Nat} {i h : Nat} {S : Nat → Nat → Int32} (hg : isPO (pg i)) : rk1 pg i (S, h) = (up2 S 8 h (valN S (pg i) (S 7 i)), h + 1) := by
  unfold rk1
  generalize pg i = g at hg
  rw [if_pos (show isPush g by unfold isPO at hg; rcases hg with rfl | rfl | rfl | rfl | rfl | rfl | rfl <;> decide)]
theorem rk1_ti {pg : Nat → Nat} {i h : Nat} {S : Nat → Nat → Int32} (hg : pg i = 15) : rk1 pg i (S, h) = (up2 S 8 h (S 0 0), h + 1) := by
  unfold rk1
  rw [hg, if_pos (show isPush 15 by decide)]
  all_goals ((try simp only [lw_S, nI_1]); (try rfl))
theorem rk1_un {pg : Nat → Nat} {i h : Nat} {S : Nat → Nat → Int32} (hg : pg i = 20 ∨ pg i = 44) (hh : 1 ≤ h) : rk1 pg i (S, h) = (up2 S 8 (h - 1) (if pg i = 20 then nI 1 - S 8 (h - 1) else - S 8 (h - 1)), h) := by
  unfold rk1
  generalize pg i = g at hg
  rw [if_neg (show ¬ isPush g by rcases hg with rfl | rfl <;> decide), if_pos (show isUn g by rcases hg with rfl | rfl <;> decide), if_neg (show ¬ h < 1 by omega)]
theorem rk1_bi {pg : Nat → Nat} {i h : Nat} {S : Nat → Nat → Int32} (hg : isBi (pg i)) (hh : 2 ≤ h) : rk1 pg i (S, h) = (up2 S 8 (h - 2) (cmbN (pg i) (S 8 (h - 2)) (S 8 (h - 1))), h - 1) := by
  unfold rk1
  generalize pg i = g at hg
  unfold isBi at hg
  rw [if_neg (show ¬ isPush g by rcases hg with rfl | rfl | rfl | rfl | rfl | rfl | rfl | rfl | rfl | rfl | rfl | rfl | rfl <;> decide), if_neg (show ¬ isUn g by rcases hg with rfl | rfl | rfl | rfl | rfl | rfl | rfl | rfl | rfl | rfl | rfl | rfl | rfl <;> decide), if_neg (show ¬ h < 2 by omega)]
theorem hgS_po {g h : Nat} (hg : isPO g) : hgS g h = h + 1 := by
  unfold isPO at hg
  unfold hgS
  rw [if_pos (by omega)]
theorem hgS_bi {g h : Nat} (hg : isBi g) : hgS g h = h - 1 := by
  unfold isBi at hg
  unfold hgS
  rw [if_neg (by omega), if_neg (by omega)]
theorem wd_po {g : Nat} (hg : isPO g) : wd g = 2 := by
  unfold isPO at hg
  unfold wd
  rw [if_pos (by omega)]
theorem wd_bi {g : Nat} (hg : isBi g) : wd g = 1 := by
  unfold isBi at hg
  unfold wd
  rw [if_neg (by omega)]
/-- one sign of the code -/
theorem r_step {m t a F G g h c e : Nat} {A st : Nat → Nat → Int32} {v : Int32} {M : gMem} {pg : Nat → Nat} {i : Nat} {S : Nat → Nat → Int32} (L : LSt m t a M) (R : RE A st F G) (hF : F ≤ 8) (hG : G ≤ 8) (ei : pg i = g) (ev : S 7 i = v) (hS : ∀ d, d ≠ 8 → S d = A d) (hK : ∀ k, k < h → st 16 k = S 8 k) (hh : h < 400) (hc : c + wd g ≤ e) (he : e ≤ 800) (ok : cdOK F G g h v (fun k => mI M (t + 15) k) c) : ∃ r, bb_X12_carryOut_5 (bC 17 a st M) a (nI e) (nI h + (-1 : Int32)) (nI c) = some (.inl (bC 17 a (up1 st 16 r) M, nI (hgS g h) + (-1 : Int32), nI (c + wd g))) ∧ (rk1 pg i (S, h)).2 = hgS g h ∧ ∀ k, k < hgS g h → r k = (rk1 pg i (S, h)).1 8 k := by
  have w1 : 1 ≤ wd g := by unfold wd; split <;> omega
  have q0 : ¬ nI e ≤ nI c := fun q => by have := (nI_leI (by omega) (by omega)).mp q; omega
  have q1 : inb (nI c) 800 := (inbN (by omega)).mpr (by omega)
  obtain ⟨ec, ok⟩ := ok
  have ec : mI M (t + 15) c = nI (opc g) := ec
  have n1 : ¬ (1 : Int32) = 0 := by decide
  have head : ∀ x b, (x = (if opc g = 30 ∨ opc g = 2 ∨ opc g = 4 ∨ (15 ≤ opc g ∧ opc g ≤ 19) then (1 : Int32) else 0)) → opc g < 2 ^ 31 → ((if x = 0 then (if nI (opc g) = (31 : Int32) then b_X12_carryOut_106 (bC 17 a st M) a (nI e) (nI h + (-1 : Int32)) (nI (c + 1)) (nI (opc g)) else (if nI (opc g) = (20 : Int32) then b_X12_carryOut_106 (bC 17 a st M) a (nI e) (nI h + (-1 : Int32)) (nI (c + 1)) (nI (opc g)) else ck (mT (bC 17 a st M) a = 11) <| dr ((mR (bC 17 a st M) a 17)) fun a33 => ck (mT (bC 17 a st M) a33 = 20) <| ck (inb ((nI h + (-1 : Int32)) + (-1 : Int32)) (mL (bC 17 a st M) a33)) <| ck (inb (((nI h + (-1 : Int32)) + (-1 : Int32)) + (1 : Int32)) (mL (bC 17 a st M) a33)) <| bd (f_X14_both (bC 17 a st M) (nI (opc g)) ((mI (bC 17 a st M) a33 (((nI h + (-1 : Int32)) + (-1 : Int32))).toNatClampNeg)) ((mI (bC 17 a st M) a33 ((((nI h + (-1 : Int32)) + (-1 : Int32)) + (1 : Int32))).toNatClampNeg))) fun r37 M37 => ck (mT M37 a33 = 20) <| ck (inb ((nI h + (-1 : Int32)) + (-1 : Int32)) (mL M37 a33)) <| lw (wI M37 a33 (((nI h + (-1 : Int32)) + (-1 : Int32))).toNatClampNeg r37) fun M40 => some (.inl (M40, ((nI h + (-1 : Int32)) + (-1 : Int32)), nI (c + 1))))) else ck (mT (bC 17 a st M) a = 11) <| (if nI (opc g) = (15 : Int32) then b_X12_carryOut_78 (bC 17 a st M) a (nI e) ((nI h + (-1 : Int32)) + (1 : Int32)) (nI (c + 1)) (nI (opc g)) ((mR (bC 17 a st M) a 17)) ((nI h + (-1 : Int32)) + (1 : Int32)) ((mI (bC 17 a st M) a 0)) else dr ((mR (bC 17 a st M) a 18)) fun a43 => ck (mT (bC 17 a st M) a43 = 13) <| dr ((mR (bC 17 a st M) a43 11)) fun a45 => ck (mT (bC 17 a st M) a45 = 12) <| dr ((mR (bC 17 a st M) a45 21)) fun a47 => ck (mT (bC 17 a st M) a47 = 20) <| ck (inb (nI (c + 1)) (mL (bC 17 a st M) a47)) <| bd (f_X12_pushed (bC 17 a st M) a (nI (opc g)) ((mI (bC 17 a st M) a47 ((nI (c + 1))).toNatClampNeg))) fun r50 M50 => b_X12_carryOut_78 M50 a (nI e) ((nI h + (-1 : Int32)) + (1 : Int32)) (nI (c + 1)) (nI (opc g)) ((mR (bC 17 a st M) a 17)) ((nI h + (-1 : Int32)) + (1 : Int32)) r50)) = b) → bb_X12_carryOut_5 (bC 17 a st M) a (nI e) (nI h + (-1 : Int32)) (nI c) = b := by
    intro x b hx ho hb
    rw [← hb, hx]
    unfold bb_X12_carryOut_5
    rw [if_neg q0, ck_t (q_T L), dr_s (q_R18 L), ck_t (q_Tm L), dr_s (q_Rm L), ck_t (q_Tt L), dr_s (q_r21 L), ck_t (q_t15 L), q_l15 L, ck_t q1, nI_clamp (n := c) (by omega), q_Ij L (by omega), ec, r_isPushed ho, bd_S, nI_1]
  rcases ok with ⟨hg, e1, h1, h2⟩ | rfl | ⟨hg, hh1⟩ | ⟨hg, hh2⟩
  · -- a value with an operand
    have e1 : mI M (t + 15) (c + 1) = v := e1
    have hw := wd_po hg
    have hs := hgS_po (h := h) hg
    have q2 : inb (nI (c + 1)) 800 := (inbN (by omega)).mpr (by omega)
    have q3 : inb (nI h) 400 := (inbN (by omega)).mpr (by omega)
    have ho : opc g < 2 ^ 31 ∧ (opc g = 30 ∨ opc g = 2 ∨ opc g = 4 ∨ (15 ≤ opc g ∧ opc g ≤ 19)) ∧ opc g ≠ 15 := by
      unfold isPO at hg
      rcases hg with rfl | rfl | rfl | rfl | rfl | rfl | rfl <;> decide
    have n15 : ¬ nI (opc g) = (15 : Int32) := nI_ne (b := 15) ho.2.2 ho.1 (by omega)
    refine ⟨up1 (st 16) h (valN A g v), ?_, by rw [rk1_po (by rw [ei]; exact hg), hs], fun k hk => ?_⟩
    · refine head 1 _ (if_pos ho.2.1).symm ho.1 ?_
      rw [if_neg n1, ck_t (q_T L), if_neg n15, dr_s (q_R18 L), ck_t (q_Tm L), dr_s (q_Rm L), ck_t (q_Tt L), dr_s (q_r21 L), ck_t (q_t15 L), q_l15 L, ck_t q2, nI_clamp (n := c + 1) (by omega), q_Ij L (by omega), e1, r_pushed L R hF hG hg h1 h2, bd_S, top_1, hs, top_s, hw]
      unfold b_X12_carryOut_78
      rw [dr_s (q_R17 L), ck_t (q_T16 L), q_L16 L, ck_t q3, nI_clamp (by omega), bC_W (by omega)]
      simp only [lw_S]
      rw [if_neg n15, nI_1, up2_up1]
    · rw [rk1_po (by rw [ei]; exact hg), ei, ev]
      dsimp only
      have hv : valN S g v = valN A g v := valN_congr (fun d hd => hS d (by omega)) g v
      rw [hs] at hk
      by_cases ck : k = h
      · subst ck
        rw [up1_e, up2_eq, hv]
      · rw [up1_o ck, up2_ne (.inr ck)]
        exact hK k (by omega)
  · -- the tide
    have q3 : inb (nI h) 400 := (inbN (by omega)).mpr (by omega)
    have hs : hgS 15 h = h + 1 := rfl
    have hw : wd 15 = 1 := rfl
    refine ⟨up1 (st 16) h (A 0 0), ?_, by rw [rk1_ti ei, hs], fun k hk => ?_⟩
    · refine head 1 _ rfl (by decide) ?_
      have e15 : nI (opc 15) = (15 : Int32) := rfl
      rw [if_neg n1, ck_t (q_T L), if_pos e15, bC_I0 (by omega), R.1, top_1, hs, top_s, hw]
      unfold b_X12_carryOut_78
      rw [dr_s (q_R17 L), ck_t (q_T16 L), q_L16 L, ck_t q3, nI_clamp (by omega), bC_W (by omega)]
      simp only [lw_S]
      rw [if_pos e15, up2_up1]
    · rw [rk1_ti ei, hS 0 (by omega)]
      dsimp only
      rw [hs] at hk
      by_cases ck : k = h
      · subst ck
        rw [up1_e, up2_eq]
      · rw [up1_o ck, up2_ne (.inr ck)]
        exact hK k (by omega)
  · -- a not, a minus in front
    have e3 : nI h + (-1 : Int32) = nI (h - 1) := dn1 hh1
    have q3 : inb (nI (h - 1)) 400 := (inbN (by omega)).mpr (by omega)
    have hs : hgS g h = h := by unfold hgS; rw [if_neg (by omega), if_pos (by omega)]
    have hw : wd g = 1 := by unfold wd; rw [if_neg (by omega)]
    have hp : ¬ (opc g = 30 ∨ opc g = 2 ∨ opc g = 4 ∨ (15 ≤ opc g ∧ opc g ≤ 19)) := by rcases hg with rfl | rfl <;> decide
    refine ⟨up1 (st 16) (h - 1) (if g = 20 then nI 1 - st 16 (h - 1) else - st 16 (h - 1)), ?_, by rw [rk1_un (by rw [ei]; exact hg) hh1, hs], fun k hk => ?_⟩
    · refine head 0 _ (if_neg hp).symm (by rcases hg with rfl | rfl <;> decide) ?_
      rw [if_pos rfl, hs, hw]
      rcases hg with rfl | rfl
      · have o1 : ¬ nI (opc 20) = (31 : Int32) := by decide
        have o2 : nI (opc 20) = (20 : Int32) := rfl
        rw [if_neg o1, if_pos o2]
        unfold b_X12_carryOut_106 b_X12_carryOut_136
        rw [ck_t (q_T L), if_neg o1, dr_s (q_R17 L), ck_t (q_T16 L), q_L16 L, e3, ck_t q3, dr_s (q_R17 L), ck_t (q_T16 L), q_L16 L, ck_t q3, nI_clamp (by omega), bC_I (by omega), bC_W (by omega), up2_up1]
        all_goals ((try simp only [lw_S, nI_1]); (try rfl))
      · have o1 : nI (opc 44) = (31 : Int32) := rfl
        rw [if_pos o1]
        unfold b_X12_carryOut_106 b_X12_carryOut_136
        rw [ck_t (q_T L), if_pos o1, dr_s (q_R17 L), ck_t (q_T16 L), q_L16 L, e3, ck_t q3, dr_s (q_R17 L), ck_t (q_T16 L), q_L16 L, ck_t q3, nI_clamp (by omega), bC_I (by omega), bC_W (by omega), up2_up1]
        all_goals ((try simp only [lw_S, nI_1]); (try rfl))
    · rw [rk1_un (by rw [ei]; exact hg) hh1, ei]
      dsimp only
      rw [hs] at hk
      by_cases ck : k = h - 1
      · subst ck
        rw [up1_e, up2_eq, hK (h - 1) (by omega)]
      · rw [up1_o ck, up2_ne (.inr ck)]
        exact hK k hk
  · -- an operation
    have e3 : nI h + (-1 : Int32) + (-1 : Int32) = nI (h - 2) := by rw [dn1 (by omega), dn1 (by omega)]; congr 1
    have e4 : nI (h - 2) + (1 : Int32) = nI (h - 1) := by rw [nI_1]; congr 1; omega
    have e5 : nI (h - 1) + (-1 : Int32) = nI (h - 2) := by rw [dn1 (by omega)]; congr 1
    have q3 : inb (nI (h - 2)) 400 := (inbN (by omega)).mpr (by omega)
    have q4 : inb (nI (h - 1)) 400 := (inbN (by omega)).mpr (by omega)
    have hs := hgS_bi (h := h) hg
    have hw := wd_bi hg
    have hp : opc g < 2 ^ 31 ∧ ¬ (opc g = 30 ∨ opc g = 2 ∨ opc g = 4 ∨ (15 ≤ opc g ∧ opc g ≤ 19)) ∧ opc g ≠ 31 ∧ opc g ≠ 20 := by
      unfold isBi at hg
      rcases hg with rfl | rfl | rfl | rfl | rfl | rfl | rfl | rfl | rfl | rfl | rfl | rfl | rfl <;> decide
    have o1 : ¬ nI (opc g) = (31 : Int32) := nI_ne (b := 31) hp.2.2.1 hp.1 (by omega)
    have o2 : ¬ nI (opc g) = (20 : Int32) := nI_ne (b := 20) hp.2.2.2 hp.1 (by omega)
    refine ⟨up1 (st 16) (h - 2) (cmbN g (st 16 (h - 2)) (st 16 (h - 1))), ?_, by rw [rk1_bi (by rw [ei]; exact hg) hh2, hs], fun k hk => ?_⟩
    · refine head 0 _ (if_neg hp.2.1).symm hp.1 ?_
      rw [if_pos rfl, if_neg o1, if_neg o2, e3, e4, hs, hw, e5, ck_t (q_T L), dr_s (q_R17 L), ck_t (q_T16 L), q_L16 L, ck_t q3, ck_t q4, r_both hg, bd_S, ck_t (q_T16 L), q_L16 L, ck_t q3, nI_clamp (n := h - 2) (by omega), nI_clamp (n := h - 1) (by omega), bC_I (by omega), bC_I (by omega), bC_W (by omega), up2_up1]
      all_goals ((try simp only [lw_S, nI_1]); (try rfl))
    · rw [rk1_bi (by rw [ei]; exact hg) hh2, ei]
      dsimp only
      rw [hs] at hk
      by_cases ck : k = h - 2
      · subst ck
        rw [up1_e, up2_eq, hK (h - 2) (by omega), hK (h - 1) (by omega)]
      · rw [up1_o ck, up2_ne (.inr ck)]
        exact hK k (by omega)
theorem r_carryOut {m t a F G s n c : Nat} {A st : Nat → Nat → Int32} {M : gMem} {pg : Nat → Nat} (L : LSt m t a M) (R : RE A st F G) (hF : F ≤ 8) (hG : G ≤ 8) (C : CD pg (A 7) (fun k => mI M (t + 15) k) F G s n c) (hn : n ≤ 400) (hc : c + wds pg s n ≤ 800) (h1 : hgt pg s n = 1) : ∃ st', (∀ d, d ≠ 16 → st' d = st d) ∧ f_X12_carryOut (bC 17 a st M) a (nI c) (nI (c + wds pg s n)) = some (rkV pg s A n, bC 17 a st' M) := by
  have key : ∀ d j st1, j + d = n → (∀ d, d ≠ 16 → st1 d = st d) → (rkN pg s A j).2 = hgt pg s j → (∀ k, k < hgt pg s j → st1 16 k = (rkN pg s A j).1 8 k) → ∃ st', (∀ d, d ≠ 16 → st' d = st d) ∧ (rkN pg s A n).2 = 1 ∧ st' 16 0 = (rkN pg s A n).1 8 0 ∧ lp_X12_carryOut_5 (bC 17 a st1 M) a (nI (c + wds pg s n)) (nI (hgt pg s j) + (-1 : Int32)) (nI (c + wds pg s j)) = lp_X12_carryOut_5 (bC 17 a st' M) a (nI (c + wds pg s n)) (nI 0) (nI (c + wds pg s n)) := by
    intro d
    induction d with
    | zero =>
      intro j st1 hj g1 g2 g3
      have : j = n := by omega
      subst this
      refine ⟨st1, g1, by rw [g2, h1], g3 0 (by omega), ?_⟩
      rw [h1, show nI 1 + (-1 : Int32) = nI 0 by decide]
      all_goals ((try simp only [lw_S, nI_1]); (try rfl))
    | succ d ih =>
      intro j st1 hj g1 g2 g3
      have hj' : j < n := by omega
      have hw := wds_le (pg := pg) (s := s) (n - (j + 1)) (j + 1)
      rw [show j + 1 + (n - (j + 1)) = n by omega] at hw
      have hw1 : wds pg s (j + 1) = wds pg s j + wd (pg (s + j)) := rfl
      have hh := hgt_le (pg := pg) (s := s) j
      have e7 : (rkN pg s A j).1 7 (s + j) = A 7 (s + j) := by rw [rkN_o (by omega)]
      obtain ⟨r, f1, f2, f3⟩ := r_step (st := st1) (h := hgt pg s j) (e := c + wds pg s n) (pg := pg) (i := s + j) (S := (rkN pg s A j).1) L (RE_c R g1) hF hG rfl e7 (fun d hd => rkN_o hd j) g3 (by omega) (show c + wds pg s j + wd (pg (s + j)) ≤ c + wds pg s n by omega) hc (C j hj')
      have eq : rkN pg s A (j + 1) = rk1 pg (s + j) ((rkN pg s A j).1, hgt pg s j) := by rw [rkN, ← g2]
      obtain ⟨st', k1, k2, k3, k4⟩ := ih (j + 1) (up1 st1 16 r) (by omega) (fun d hd => by rw [up1_o hd, g1 d hd]) (by rw [eq, f2]; rfl) (fun k hk => by rw [up1_e, eq]; exact f3 k hk)
      refine ⟨st', k1, k2, k3, ?_⟩
      rw [← k4]
      unfold lp_X12_carryOut_5
      refine lp_in (f1.trans ?_)
      rw [hw1, Nat.add_assoc]
      all_goals ((try simp only [lw_S, nI_1]); (try rfl))
  obtain ⟨st', k1, k2, k3, k4⟩ := key n 0 st (by omega) (fun _ _ => rfl) rfl (fun k hk => absurd hk (Nat.not_lt_zero k))
  refine ⟨st', k1, ?_⟩
  have e0 : f_X12_carryOut (bC 17 a st M) a (nI c) (nI (c + wds pg s n)) = lp_X12_carryOut_5 (bC 17 a st M) a (nI (c + wds pg s n)) (nI (hgt pg s 0) + (-1 : Int32)) (nI (c + wds pg s 0)) := by
    rw [show nI (hgt pg s 0) + (-1 : Int32) = -1 from (by decide : nI 0 + (-1 : Int32) = -1)]
    rfl
  rw [e0, k4]
  unfold lp_X12_carryOut_5
  refine lp_out ?_
  have q : nI (c + wds pg s n) ≤ nI (c + wds pg s n) := nI_le (Nat.le_refl _) (by omega)
  have q1 : inb (0 : Int32) 400 := by decide
  show bb_X12_carryOut_5 (bC 17 a st' M) a (nI (c + wds pg s n)) (nI 0) (nI (c + wds pg s n)) = _
  unfold bb_X12_carryOut_5 rkV
  have z0 : (0 : Int32).toNatClampNeg = 0 := rfl
  rw [if_pos q, ck_t (q_T L), dr_s (q_R17 L), ck_t (q_T16 L), q_L16 L, ck_t q1, z0, bC_I (by omega), k2, if_neg (by omega), k3]
  all_goals ((try simp only [lw_S, nI_1]); (try rfl))
