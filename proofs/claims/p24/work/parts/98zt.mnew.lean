/-! ## Pure: the reference is made -/
theorem al_okg {g x n k : Nat} {M : gMem} (h : mT M x = g ∧ x < mN M) : mT (al x n k M) x = g ∧ x < mN (al x n k M) :=
  ⟨(show (if x = mN M then 20 else mT M x) = g from by rw [if_neg (by omega)]; exact h.1), Nat.lt_succ_of_lt h.2⟩
theorem al_sg {g x n k : Nat} {M : gMem} {K : gMem → Option (Unit × gMem)} (h : mT M x = g ∧ x < mN M) : (lw (nW M 20 n) fun M1 => ck (mT M1 x = g) <| lw (wR M1 x k (some (mN M))) K) = K (al x n k M) := by
  have e : mT (nW M 20 n) x = g := (show (if x = mN M then 20 else mT M x) = g from by rw [if_neg (by omega)]; exact h.1)
  rw [lw_S, ck_t e, lw_S]
  rfl
theorem alL_okg {g x : Nat} : ∀ (l : List (Nat × Nat)) (M : gMem), (mT M x = g ∧ x < mN M) → mT (alL x l M) x = g ∧ x < mN (alL x l M)
  | [], _, h => h
  | _ :: r, _, h => alL_okg r _ (al_okg h)
def stL : List (Nat × Nat) := [(40, 2), (8, 3), (64, 4), (8, 5), (8, 6), (8, 7), (8, 8), (8, 9), (8, 10), (6, 11), (6, 12), (6, 13), (8, 14), (8, 15), (6, 16), (400, 17)]
def moL : List (Nat × Nat) := [(401, 4), (401, 5), (401, 6), (401, 7), (401, 8)]
theorem stL_2 : ∀ j, j < 16 → (stL.getD j (0, 0)).1 = lenS (j + 1) ∧ (stL.getD j (0, 0)).2 = j + 2 := by decide
def stW (x m : Nat) (M : gMem) : gMem := wI (wR M x 18 (some m)) x 1 1
/-- below N only the row x changes -/
def upN (N x : Nat) (M X : gMem) : Prop := ∀ a, a < N → mT X a = mT M a ∧ mL X a = mL M a ∧ (a ≠ x → mR X a = mR M a ∧ mI X a = mI M a)
theorem upN_t {N x : Nat} {M X Y : gMem} (h : upN N x M X) (g : upN N x X Y) : upN N x M Y := fun a ha =>
  ⟨(g a ha).1.trans (h a ha).1, (g a ha).2.1.trans (h a ha).2.1, fun z => ⟨((g a ha).2.2 z).1.trans ((h a ha).2.2 z).1, ((g a ha).2.2 z).2.trans ((h a ha).2.2 z).2⟩⟩
theorem upN_l {N N' x : Nat} {M X : gMem} (h : upN N x M X) (g : N' ≤ N) : upN N' x M X := fun a ha => h a (by omega)
theorem upN_n {N x g l : Nat} {M : gMem} (h : N ≤ mN M) : upN N x M (nW M g l) := fun a ha =>
  ⟨if_neg (by omega), if_neg (by omega), fun _ => ⟨if_neg (by omega), if_neg (by omega)⟩⟩
theorem upN_R {N x y k : Nat} {v : Option Nat} {M : gMem} (h : y = x ∨ N ≤ y) : upN N x M (wR M y k v) := fun a ha =>
  ⟨rfl, rfl, fun z => ⟨by funext j; exact wR_n (.inl (by omega)), rfl⟩⟩
theorem upN_I {N x y k : Nat} {v : Int32} {M : gMem} (h : y = x ∨ N ≤ y) : upN N x M (wI M y k v) := fun a ha =>
  ⟨rfl, rfl, fun z => ⟨rfl, by funext j; exact wI_o (.inl (by omega))⟩⟩
theorem upN_L {N x y : Nat} {M : gMem} (l : List (Nat × Nat)) (hy : y < mN M) (hN : N ≤ mN M) (h : y = x ∨ N ≤ y) : upN N x M (alL y l M) := fun a ha => by
  obtain ⟨z1, z2, z3, z4, z5⟩ := (alL_f l M hy).2.1 a (by omega)
  exact ⟨z1, z2, fun z => ⟨z5 (by omega), z3⟩⟩
theorem upN_x {N x : Nat} {M X : gMem} (h : upN N x M X) (hx : N ≤ x) : ∀ a, a < N → mT X a = mT M a ∧ mL X a = mL M a ∧ mR X a = mR M a ∧ mI X a = mI M a := fun a ha =>
  ⟨(h a ha).1, (h a ha).2.1, ((h a ha).2.2 (by omega)).1, ((h a ha).2.2 (by omega)).2⟩
