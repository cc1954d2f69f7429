/-! ## Pure: loops, memory, numbers -/
noncomputable def cif {α : Type} (p : Prop) (a b : α) : α := @ite α p (Classical.propDecidable p) a b
theorem cif_t {α : Type} {p : Prop} {a b : α} (h : p) : cif p a b = a := sorry

theorem cif_f {α : Type} {p : Prop} {a b : α} (h : ¬ p) : cif p a b = b := sorry

theorem lp_eq {α β : Type} (f : α → Option (α ⊕ β)) (a : α) : lp f a = (match f a with | none => none | some (.inr b) => some b | some (.inl a') => lp f a') := sorry

/-- a loop that goes through s i, s (i+1), .. s n and leaves there -/
theorem lp_seq {α β : Type} {f : α → Option (α ⊕ β)} (s : Nat → α) (i n : Nat) {b : β} (hi : i ≤ n) (h : ∀ j, i ≤ j → j < n → f (s j) = some (.inl (s (j + 1)))) (hb : f (s n) = some (.inr b)) : lp f (s i) = some b := sorry

/-- only ints change -/
def sI (M : gMem) (I : Nat → Nat → Int32) : gMem := (mT M, mL M, I, mR M, mJ M, mN M)
theorem wI_sI (M : gMem) (a k : Nat) (v : Int32) : wI M a k v = sI M (up2 (mI M) a k v) := sorry

theorem sI_sI (M : gMem) (I J : Nat → Nat → Int32) : sI (sI M I) J = sI M J := sorry

theorem sI_self (M : gMem) : sI M (mI M) = M := sorry

theorem up2_eq {α : Type} (f : Nat → Nat → α) (a k : Nat) (v : α) : up2 f a k v a k = v := sorry

theorem up2_ne {α : Type} {f : Nat → Nat → α} {a k b j : Nat} {v : α} (h : b ≠ a ∨ j ≠ k) : up2 f a k v b j = f b j := sorry

theorem inb_nI {i n : Nat} (h : i < n) (hn : n < 2 ^ 31) : inb (nI i) n := sorry

theorem lit (n : Nat) : (OfNat.ofNat n : Int32) = nI n := sorry

theorem inbN {i n : Nat} (hi : i < 2 ^ 31) : inb (nI i) n ↔ i < n := sorry

theorem ck_T {α : Type} {k : Option α} : ck True k = k := sorry

theorem dr_S {α : Type} {a : Nat} {k : Nat → Option α} : dr (some a) k = k a := sorry

theorem bd_S {α β : Type} {x : α} {M : gMem} {k : α → gMem → Option β} : bd (some (x, M)) k = k x M := sorry

theorem oI_S {α β : Type} {x : β} : (oI (some x) : Option (α ⊕ β)) = some (.inr x) := sorry

theorem lw_S {α : Type} {M : gMem} {k : gMem → Option α} : lw M k = k M := sorry

/-- the fish of a ground: sum of places 1 to 5 -/
def sum5 (f : Nat → Int32) : Nat → Int32
  | 0 => 0
  | n + 1 => sum5 f n + f (n + 1)
theorem s_allFish {M : gMem} {g af : Nat} (h1 : mT M g = 3) (h2 : mR M g 3 = some af) (h3 : mT M af = 20) (h4 : mL M af = 6) : f_X3_allFish M g = some (sum5 (mI M af) 5, M) := sorry

/-- ints of n places become others -/
def uI (M : gMem) (a : Nat) (f : Nat → Int32) : gMem := (mT M, mL M, up1 (mI M) a f, mR M, mJ M, mN M)
theorem wI_u (M : gMem) (a k : Nat) (v : Int32) : wI M a k v = uI M a (up1 (mI M a) k v) := sorry

theorem uI_T (M : gMem) (a : Nat) (f : Nat → Int32) : mT (uI M a f) = mT M := sorry

theorem uI_L (M : gMem) (a : Nat) (f : Nat → Int32) : mL (uI M a f) = mL M := sorry

theorem uI_R (M : gMem) (a : Nat) (f : Nat → Int32) : mR (uI M a f) = mR M := sorry

theorem uI_J (M : gMem) (a : Nat) (f : Nat → Int32) : mJ (uI M a f) = mJ M := sorry

theorem uI_N (M : gMem) (a : Nat) (f : Nat → Int32) : mN (uI M a f) = mN M := sorry

theorem uI_I (M : gMem) (a : Nat) (f : Nat → Int32) : mI (uI M a f) a = f := sorry

theorem uI_o {M : gMem} {a b : Nat} {f : Nat → Int32} (h : b ≠ a) : mI (uI M a f) b = mI M b := sorry

theorem uI_u (M : gMem) (a : Nat) (f g : Nat → Int32) : uI (uI M a f) a g = uI M a g := sorry

theorem up1_e {α : Type} (f : Nat → α) (a : Nat) (v : α) : up1 f a v a = v := sorry

theorem up1_o {α : Type} {f : Nat → α} {a b : Nat} {v : α} (h : b ≠ a) : up1 f a v b = f b := sorry

theorem nI_dn {n : Nat} (h : 0 < n) : nI n + -nI 1 = nI (n - 1) := sorry

/-- a growing ground: one place from 4 down to 1 gives a fifth to the next; then the young come -/
def gr1 (f : Nat → Int32) (j : Nat) : Nat → Int32 := up1 (up1 f j (f j - f j / 5)) (j + 1) (imin (f (j + 1) + f j / 5) 99)
def grN (f : Nat → Int32) : Nat → Nat → Int32
  | 0 => f
  | n + 1 => gr1 (grN f n) (4 - n)
def gro (f : Nat → Int32) : Nat → Int32 := up1 (grN f 4) 1 (imin (grN f 4 1 + sum5 (grN f 4) 5 / 6) 99)
theorem s_grow {M : gMem} {g af : Nat} (h1 : mT M g = 3) (h2 : mR M g 3 = some af) (h3 : mT M af = 20) (h4 : mL M af = 6) : f_X3_grow M g = some ((), uI M af (gro (mI M af))) := sorry
