/-! ## Pure: the reference carries out its code -/
/-- the reference's word for a sign of a sum; how many ints it takes; the height of the stack behind it -/
def opc (g : Nat) : Nat := if g = 41 then 30 else if g = 44 then 31 else if 31 ≤ g ∧ g ≤ 39 then g + 1 else g
def isPO (g : Nat) : Prop := g = 41 ∨ g = 2 ∨ g = 4 ∨ g = 16 ∨ g = 17 ∨ g = 18 ∨ g = 19
def isBi (g : Nat) : Prop := g = 21 ∨ g = 22 ∨ g = 23 ∨ g = 24 ∨ g = 31 ∨ g = 32 ∨ g = 33 ∨ g = 34 ∨ g = 35 ∨ g = 36 ∨ g = 37 ∨ g = 38 ∨ g = 39
def wd (g : Nat) : Nat := if g = 41 ∨ g = 2 ∨ g = 4 ∨ g = 16 ∨ g = 17 ∨ g = 18 ∨ g = 19 then 2 else 1
def hgS (g h : Nat) : Nat := if g = 41 ∨ g = 2 ∨ g = 4 ∨ g = 15 ∨ g = 16 ∨ g = 17 ∨ g = 18 ∨ g = 19 then h + 1 else if g = 20 ∨ g = 44 then h else h - 1
def hgt (pg : Nat → Nat) (s : Nat) : Nat → Nat
  | 0 => 0
  | j + 1 => hgS (pg (s + j)) (hgt pg s j)
def wds (pg : Nat → Nat) (s : Nat) : Nat → Nat
  | 0 => 0
  | j + 1 => wds pg s j + wd (pg (s + j))
theorem hgt_le {pg : Nat → Nat} {s : Nat} : ∀ j, hgt pg s j ≤ j
  | 0 => Nat.le_refl _
  | j + 1 => by
    have := hgt_le (pg := pg) (s := s) j
    unfold hgt hgS
    split
    · omega
    · split <;> omega
theorem wds_le {pg : Nat → Nat} {s : Nat} : ∀ d j, wds pg s j + d ≤ wds pg s (j + d)
  | 0, _ => Nat.le_refl _
  | d + 1, j => by
    have := wds_le (pg := pg) (s := s) d j
    have h1 : 1 ≤ wd (pg (s + (j + d))) := by unfold wd; split <;> omega
    show wds pg s j + (d + 1) ≤ wds pg s (j + d) + wd (pg (s + (j + d)))
    omega
/-- a sign with its value v, at the height h, as the ints of the code at c have it -/
def cdOK (F G g h : Nat) (v : Int32) (code : Nat → Int32) (c : Nat) : Prop :=
  code c = nI (opc g) ∧ ((isPO g ∧ code (c + 1) = v ∧ ((g = 2 ∨ g = 18) → ∃ j, j < G ∧ v = nI j) ∧ ((g = 4 ∨ g = 16 ∨ g = 17 ∨ g = 19) → ∃ j, j < F ∧ v = nI j)) ∨ g = 15 ∨ ((g = 20 ∨ g = 44) ∧ 1 ≤ h) ∨ (isBi g ∧ 2 ≤ h))
/-- n signs from s on stand in the code from c on -/
def CD (pg : Nat → Nat) (vs : Nat → Int32) (code : Nat → Int32) (F G s n c : Nat) : Prop := ∀ j, j < n → cdOK F G (pg (s + j)) (hgt pg s j) (vs (s + j)) code (c + wds pg s j)
/-- a State has what a sum looks at -/
def RE (A st : Nat → Nat → Int32) (F G : Nat) : Prop :=
  st 0 0 = A 0 0 ∧ (∀ g k, g < G → k < 5 → st 1 (5 * g + k) = A (19 + 2 * g) (k + 1)) ∧ (∀ g, g < G → st 2 g = A (18 + 2 * g) 1) ∧
  ∀ f, f < F → st 4 f = A (34 + 2 * f) 1 ∧ st 5 f = A (34 + 2 * f) 4 ∧ st 6 f = A (34 + 2 * f) 5 ∧ st 9 f = A (34 + 2 * f) 9 ∧ (A (34 + 2 * f) 9 = 0 ∨ A (34 + 2 * f) 9 = 1)
theorem RE_c {A st st' : Nat → Nat → Int32} {F G : Nat} (R : RE A st F G) (h : ∀ d, d ≠ 16 → st' d = st d) : RE A st' F G := by
  unfold RE
  rw [h 0 (by omega), h 1 (by omega), h 2 (by omega), h 4 (by omega), h 5 (by omega), h 6 (by omega), h 9 (by omega)]
  exact R
theorem nI_ne {a b : Nat} (h : a ≠ b) (ha : a < 2 ^ 31) (hb : b < 2 ^ 31) : ¬ nI a = nI b := fun e => h ((nI_eq ha hb).mp e)
/-- the place of the top of a stack of h values -/
theorem top_1 (h : Nat) : nI h + (-1 : Int32) + (1 : Int32) = nI h := by
  rw [Int32.add_assoc, show ((-1 : Int32) + 1) = 0 by decide, Int32.add_zero]
theorem top_s (h : Nat) : nI (h + 1) + (-1 : Int32) = nI h := dn1 (by omega)
/-- the class's signs of each kind -/
theorem rk1_po {pg : Nat → Nat} {i h : Nat} {S : Nat → Nat → Int32} (hg : isPO (pg i)) : rk1 pg i (S, h) = (up2 S 8 h (valN S (pg i) (S 7 i)), h + 1) := by
  unfold rk1
  generalize pg i = g at hg
  rw [if_pos (show isPush g by unfold isPO at hg; rcases hg with rfl | rfl | rfl | rfl | rfl | rfl | rfl <;> decide)]
theorem rk1_ti {pg : Nat → Nat} {i h : Nat} {S : Nat → Nat → Int32} (hg : pg i = 15) : rk1 pg i (S, h) = (up2 S 8 h (S 0 0), h + 1) := by
  unfold rk1
  rw [hg, if_pos (show isPush 15 by decide)]
  all_goals ((try simp only [lw_S, nI_1]); (try rfl))
theorem rk1_un {pg : Nat → Nat} {i h : Nat} {S : Nat → Nat → Int32} (hg : pg i = 20 ∨ pg i = 44) (hh : 1 ≤ h) : rk1 pg i (S, h) = (up2 S 8 (h - 1) (if pg i = 20 then nI 1 - S 8 (h - 1) else - S 8 (h - 1)), h) := by
  unfold rk1
  generalize pg i = g at hg
  rw [if_neg (show ¬ isPush g by rcases hg with rfl | rfl <;> decide), if_pos (show isUn g by rcases hg with rfl | rfl <;> decide), if_neg (show ¬ h < 1 by omega)]
theorem rk1_bi {pg : Nat → Nat} {i h : Nat} {S : Nat → Nat → Int32} (hg : isBi (pg i)) (hh : 2 ≤ h) : rk1 pg i (S, h) = (up2 S 8 (h - 2) (cmbN (pg i) (S 8 (h - 2)) (S 8 (h - 1))), h - 1) := by
  unfold rk1
  generalize pg i = g at hg
  unfold isBi at hg
  rw [if_neg (show ¬ isPush g by rcases hg with rfl | rfl | rfl | rfl | rfl | rfl | rfl | rfl | rfl | rfl | rfl | rfl | rfl <;> decide), if_neg (show ¬ isUn g by rcases hg with rfl | rfl | rfl | rfl | rfl | rfl | rfl | rfl | rfl | rfl | rfl | rfl | rfl <;> decide), if_neg (show ¬ h < 2 by omega)]
theorem hgS_po {g h : Nat} (hg : isPO g) : hgS g h = h + 1 := by
  unfold isPO at hg
  unfold hgS
  rw [if_pos (by omega)]
theorem hgS_bi {g h : Nat} (hg : isBi g) : hgS g h = h - 1 := by
  unfold isBi at hg
  unfold hgS
  rw [if_neg (by omega), if_neg (by omega)]
theorem wd_po {g : Nat} (hg : isPO g) : wd g = 2 := by
  unfold isPO at hg
  unfold wd
  rw [if_pos (by omega)]
theorem wd_bi {g : Nat} (hg : isBi g) : wd g = 1 := by
  unfold isBi at hg
  unfold wd
  rw [if_neg (by omega)]
