/-! ## Pure: a fisher of the reference fishes -/
theorem bC_Ic {n a d k : Nat} {st : Nat → Nat → Int32} {M : gMem} (hk : k < 2 ^ 31) (h : d < n) : mI (bC n a st M) (a + d) (nI k).toNatClampNeg = st d k := sorry

theorem bC_Wc {n a d k : Nat} {v : Int32} {st : Nat → Nat → Int32} {M : gMem} (hk : k < 2 ^ 31) (h : d < n) : wI (bC n a st M) (a + d) (nI k).toNatClampNeg v = bC n a (up2 st d k v) M := sorry

theorem q_Ic {j k m t a : Nat} {st : Nat → Nat → Int32} {M : gMem} (L : LSt m t a M) (hk : k < 2 ^ 31) (h : j < 17) : mI (bC 17 a st M) (t + j) (nI k).toNatClampNeg = mI M (t + j) k := sorry

/-- the fish row F and the net row N in a State -/
def fnS (st : Nat → Nat → Int32) (F N : Nat → Int32) : Nat → Nat → Int32 := up1 (up1 st 1 F) 15 N
theorem fnS_1 {st : Nat → Nat → Int32} {F N : Nat → Int32} : fnS st F N 1 = F := sorry

theorem fnS_15 {st : Nat → Nat → Int32} {F N : Nat → Int32} : fnS st F N 15 = N := sorry

theorem fnS_o {st : Nat → Nat → Int32} {F N : Nat → Int32} {d : Nat} (h : d ≠ 1 ∧ d ≠ 15) : fnS st F N d = st d := sorry

theorem fnS_w1 {st : Nat → Nat → Int32} {F N : Nat → Int32} {k : Nat} {v : Int32} : up2 (fnS st F N) 1 k v = fnS st (up1 F k v) N := sorry

theorem fnS_w15 {st : Nat → Nat → Int32} {F N : Nat → Int32} {k : Nat} {v : Int32} : up2 (fnS st F N) 15 k v = fnS st F (up1 N k v) := sorry

theorem fnS_self (st : Nat → Nat → Int32) : fnS st (st 1) (st 15) = st := sorry

theorem nI_up {a b : Nat} : nI a + nI b = nI (a + b) := sorry

/-- sizes that are too small, and all behind a torn net, change nothing -/
theorem hlN_stop {fk : Nat → Nat} {h w m j : Nat} (c : ¬ (m ≤ 5 - j ∧ (hlN fk h w m j).2.2.2 = 0)) : ∀ d, hlN fk h w m (j + d) = hlN fk h w m j := sorry

/-- all that is caught, and its weight, by sizes -/
theorem hlN_sum {fk : Nat → Nat} {h w m : Nat} : ∀ j, j ≤ 5 → (∀ i, i ≤ j → kpN (hlN fk h w m j).1 0 (5 - i) + (if i = j then (hlN fk h w m j).2.1 else 0) = kpN (hlN fk h w m j).1 0 (5 - i) + (if i = j then (hlN fk h w m j).2.1 else 0)) ∧ kpN (hlN fk h w m j).1 0 5 = (hlN fk h w m j).2.1 ∧ wgN (hlN fk h w m j).1 0 5 = (hlN fk h w m j).2.2.1 := sorry

/-- of the sizes below m up to n -/
def lwK (hl : Nat → Nat) (m : Nat) : Nat → Nat
  | 0 => 0
  | n + 1 => lwK hl m n + (if m ≤ n + 1 then 0 else hl (n + 1))
def lwW (hl : Nat → Nat) (m : Nat) : Nat → Nat
  | 0 => 0
  | n + 1 => lwW hl m n + (if m ≤ n + 1 then 0 else hl (n + 1) * (n + 1))
theorem lw_kp {hl : Nat → Nat} {m : Nat} : ∀ n, lwK hl m n + kpN hl m n = kpN hl 0 n ∧ lwW hl m n + wgN hl m n = wgN hl 0 n := sorry

theorem lw_stop {hl : Nat → Nat} {m n : Nat} (h : m ≤ n + 1) : ∀ d, lwK hl m (n + d) = lwK hl m n ∧ lwW hl m (n + d) = lwW hl m n := sorry

/-- the catch and the took of f are written -/
def endS (st : Nat → Nat → Int32) (g f : Nat) (x c : Int32) : Nat → Nat → Int32 := up2 (up2 st 6 f x) 3 (8 * g + f) (st 3 (8 * g + f) + c)
