/-! ## Pure: loops, memory, numbers -/
noncomputable def cif {α : Type} (p : Prop) (a b : α) : α := @ite α p (Classical.propDecidable p) a b
theorem cif_t {α : Type} {p : Prop} {a b : α} (h : p) : cif p a b = a := @if_pos p (Classical.propDecidable p) h α a b
theorem cif_f {α : Type} {p : Prop} {a b : α} (h : ¬ p) : cif p a b = b := @if_neg p (Classical.propDecidable p) h α a b
theorem lp_eq {α β : Type} (f : α → Option (α ⊕ β)) (a : α) : lp f a = (match f a with | none => none | some (.inr b) => some b | some (.inl a') => lp f a') := by
  cases h : f a with
  | none =>
    cases hl : lp f a with
    | none => rfl
    | some b =>
      obtain ⟨n, hn⟩ := lp_iff.mp hl
      cases n with
      | zero => cases hn
      | succ n => simp [lpN, h] at hn
  | some z =>
    cases z with
    | inl a' => exact lp_in h
    | inr b => exact lp_out h
/-- a loop that goes through s i, s (i+1), .. s n and leaves there -/
theorem lp_seq {α β : Type} {f : α → Option (α ⊕ β)} (s : Nat → α) (i n : Nat) {b : β} (hi : i ≤ n) (h : ∀ j, i ≤ j → j < n → f (s j) = some (.inl (s (j + 1)))) (hb : f (s n) = some (.inr b)) : lp f (s i) = some b := by
  obtain ⟨k, rfl⟩ : ∃ k, n = i + k := ⟨n - i, by omega⟩
  clear hi
  induction k generalizing i with
  | zero => exact lp_out hb
  | succ k ih =>
    rw [lp_in (h i (Nat.le_refl _) (by omega))]
    have e : i + (k + 1) = i + 1 + k := by omega
    refine ih (i + 1) (fun j h1 h2 => h j (by omega) (by omega)) (by rw [← e]; exact hb)
/-- only ints change -/
def sI (M : gMem) (I : Nat → Nat → Int32) : gMem := (mT M, mL M, I, mR M, mJ M, mN M)
theorem wI_sI (M : gMem) (a k : Nat) (v : Int32) : wI M a k v = sI M (up2 (mI M) a k v) := rfl
theorem sI_sI (M : gMem) (I J : Nat → Nat → Int32) : sI (sI M I) J = sI M J := rfl
theorem sI_self (M : gMem) : sI M (mI M) = M := rfl
theorem up2_eq {α : Type} (f : Nat → Nat → α) (a k : Nat) (v : α) : up2 f a k v a k = v := by simp [up2]
theorem up2_ne {α : Type} {f : Nat → Nat → α} {a k b j : Nat} {v : α} (h : b ≠ a ∨ j ≠ k) : up2 f a k v b j = f b j := by
  unfold up2; rw [if_neg (fun q => h.elim (fun z => z q.1) (fun z => z q.2))]
theorem inb_nI {i n : Nat} (h : i < n) (hn : n < 2 ^ 31) : inb (nI i) n := vp_in_nI h hn
theorem lit (n : Nat) : (OfNat.ofNat n : Int32) = nI n := rfl
theorem inbN {i n : Nat} (hi : i < 2 ^ 31) : inb (nI i) n ↔ i < n := by
  unfold inb
  rw [nI_clamp hi]
  constructor
  · intro h; exact Nat.lt_of_not_le fun q => h (.inr q)
  · intro h q; exact q.elim (fun z => nI_pos hi z) (fun z => by omega)
theorem ck_T {α : Type} {k : Option α} : ck True k = k := if_pos trivial
theorem dr_S {α : Type} {a : Nat} {k : Nat → Option α} : dr (some a) k = k a := rfl
theorem bd_S {α β : Type} {x : α} {M : gMem} {k : α → gMem → Option β} : bd (some (x, M)) k = k x M := rfl
theorem oI_S {α β : Type} {x : β} : (oI (some x) : Option (α ⊕ β)) = some (.inr x) := rfl
theorem lw_S {α : Type} {M : gMem} {k : gMem → Option α} : lw M k = k M := rfl
/-- the fish of a ground: sum of places 1 to 5 -/
def sum5 (f : Nat → Int32) : Nat → Int32
  | 0 => 0
  | n + 1 => sum5 f n + f (n + 1)
theorem s_allFish {M : gMem} {g af : Nat} (h1 : mT M g = 3) (h2 : mR M g 3 = some af) (h3 : mT M af = 20) (h4 : mL M af = 6) : f_X3_allFish M g = some (sum5 (mI M af) 5, M) := by
  unfold f_X3_allFish b_X3_allFish_0 lp_X3_allFish_4
  refine lp_seq (fun j => (M, sum5 (mI M af) j, nI (j + 1))) 0 5 (by omega) (fun j _ hj => ?_) ?_
  · simp (disch := omega) [bb_X3_allFish_4, lit, nI_ltI, ck_T, ck_t, dr_S, h1, h2, h3, h4, inbN, nI_clamp, sum5, nI_add, show ¬ (5 < j + 1) by omega, hj]
  · simp (disch := omega) [bb_X3_allFish_4, lit, nI_ltI, oI_S]
/-- ints of n places become others -/
def uI (M : gMem) (a : Nat) (f : Nat → Int32) : gMem := (mT M, mL M, up1 (mI M) a f, mR M, mJ M, mN M)
theorem wI_u (M : gMem) (a k : Nat) (v : Int32) : wI M a k v = uI M a (up1 (mI M a) k v) := by
  simp only [wI, uI]
  congr 3
  funext b j
  by_cases hb : b = a
  · subst hb; simp [up1, up2]
  · simp [up1, up2, hb]
theorem uI_T (M : gMem) (a : Nat) (f : Nat → Int32) : mT (uI M a f) = mT M := rfl
theorem uI_L (M : gMem) (a : Nat) (f : Nat → Int32) : mL (uI M a f) = mL M := rfl
theorem uI_R (M : gMem) (a : Nat) (f : Nat → Int32) : mR (uI M a f) = mR M := rfl
theorem uI_J (M : gMem) (a : Nat) (f : Nat → Int32) : mJ (uI M a f) = mJ M := rfl
theorem uI_N (M : gMem) (a : Nat) (f : Nat → Int32) : mN (uI M a f) = mN M := rfl
theorem uI_I (M : gMem) (a : Nat) (f : Nat → Int32) : mI (uI M a f) a = f := by simp [uI, mI, up1]
theorem uI_o {M : gMem} {a b : Nat} {f : Nat → Int32} (h : b ≠ a) : mI (uI M a f) b = mI M b := by simp [uI, mI, up1, h]
theorem uI_u (M : gMem) (a : Nat) (f g : Nat → Int32) : uI (uI M a f) a g = uI M a g := by
  simp only [uI]
  congr 3
  funext b
  by_cases hb : b = a
  · subst hb; simp [up1]
  · simp [up1, mI, hb]
theorem up1_e {α : Type} (f : Nat → α) (a : Nat) (v : α) : up1 f a v a = v := by simp [up1]
theorem up1_o {α : Type} {f : Nat → α} {a b : Nat} {v : α} (h : b ≠ a) : up1 f a v b = f b := by simp [up1, h]
theorem nI_dn {n : Nat} (h : 0 < n) : nI n + -nI 1 = nI (n - 1) := by
  obtain ⟨k, rfl⟩ : ∃ k, n = k + 1 := ⟨n - 1, by omega⟩
  rw [nI_succ, Nat.add_sub_cancel]
  show nI k + 1 + -1 = nI k
  rw [Int32.add_assoc, show (1 + -1 : Int32) = 0 by decide, Int32.add_zero]
/-- a growing ground: one place from 4 down to 1 gives a fifth to the next; then the young come -/
def gr1 (f : Nat → Int32) (j : Nat) : Nat → Int32 := up1 (up1 f j (f j - f j / 5)) (j + 1) (imin (f (j + 1) + f j / 5) 99)
def grN (f : Nat → Int32) : Nat → Nat → Int32
  | 0 => f
  | n + 1 => gr1 (grN f n) (4 - n)
def gro (f : Nat → Int32) : Nat → Int32 := up1 (grN f 4) 1 (imin (grN f 4 1 + sum5 (grN f 4) 5 / 6) 99)
theorem s_grow {M : gMem} {g af : Nat} (h1 : mT M g = 3) (h2 : mR M g 3 = some af) (h3 : mT M af = 20) (h4 : mL M af = 6) : f_X3_grow M g = some ((), uI M af (gro (mI M af))) := by
  unfold f_X3_grow b_X3_grow_0 lp_X3_grow_2
  have e0 : uI M af (mI M af) = M := by
    simp only [uI]
    have : up1 (mI M) af (mI M af) = mI M := by funext b; by_cases hb : b = af <;> simp [up1, hb]
    rw [this]
  have hs : ∀ n, mT (uI M af (grN (mI M af) n)) = mT M := fun n => rfl
  have := lp_seq (f := fun (q : gMem × Int32) => bb_X3_grow_2 q.1 g q.2) (fun j => (uI M af (grN (mI M af) j), nI (4 - j))) 0 4 (b := ((), uI M af (gro (mI M af)))) (by omega) (fun j _ hj => ?_) ?_
  · simpa [grN, e0, lit] using this
  · simp (disch := omega) [bb_X3_grow_2, lit, nI_ltI, ck_T, ck_t, dr_S, lw_S, h1, h2, h3, h4, inbN, nI_clamp, nI_add, uI_T, uI_L, uI_R, uI_I, wI_u, uI_u, grN, gr1, up1_o, nI_dn, show ¬ (4 - j < 1) by omega]
    exact congrArg nI (by omega)
  · have h5 := s_allFish (M := uI M af (grN (mI M af) 4)) h1 h2 h3 h4
    simp (disch := omega) [bb_X3_grow_2, lit, nI_ltI, ck_T, ck_t, dr_S, lw_S, bd_S, oI_S, h1, h2, h3, h4, inbN, nI_clamp, nI_add, uI_T, uI_L, uI_R, uI_I, wI_u, uI_u, h5, gro]

