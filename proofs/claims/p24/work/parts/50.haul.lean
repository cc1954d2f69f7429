/-! ## Pure: a net's haul -/
theorem imin_nI {a b : Nat} (ha : a < 2 ^ 31) (hb : b < 2 ^ 31) : imin (nI a) (nI b) = nI (min a b) := sorry

theorem up2_up1s {α : Type} (sg : Nat → Nat → α) (d s : Nat) (r : Nat → α) (v : α) : up2 (up1 sg d r) d s v = up1 sg d (up1 r s v) := sorry

/-- one size: what is taken of it, how many are caught, their weight, whether the net is torn -/
def hl1 (fk : Nat → Nat) (h w s : Nat) (q : (Nat → Nat) × Nat × Nat × Nat) : (Nat → Nat) × Nat × Nat × Nat :=
  (up1 q.1 s (min (min (fk s) (h - q.2.1)) ((w - q.2.2.1) / s)), q.2.1 + min (min (fk s) (h - q.2.1)) ((w - q.2.2.1) / s), q.2.2.1 + min (min (fk s) (h - q.2.1)) ((w - q.2.2.1) / s) * s, if min (fk s) (h - q.2.1) ≤ (w - q.2.2.1) / s then 0 else 1)
/-- j sizes from 5 down -/
def hlN (fk : Nat → Nat) (h w m : Nat) : Nat → (Nat → Nat) × Nat × Nat × Nat
  | 0 => (fun _ => 0, 0, 0, 0)
  | j + 1 => if m ≤ 5 - j ∧ (hlN fk h w m j).2.2.2 = 0 then hl1 fk h w (5 - j) (hlN fk h w m j) else hlN fk h w m j
theorem hlN_b {fk : Nat → Nat} {h w m : Nat} : ∀ j, (hlN fk h w m j).2.1 ≤ h ∧ (hlN fk h w m j).2.2.1 ≤ w ∧ (hlN fk h w m j).2.2.2 ≤ 1 ∧ (∀ s, 1 ≤ s → s ≤ 5 - j → (hlN fk h w m j).1 s = 0) ∧ (∀ s, s < m → (hlN fk h w m j).1 s = 0) ∧ ∀ s, (hlN fk h w m j).1 s ≤ fk s ∧ (hlN fk h w m j).1 s ≤ h := sorry

theorem hlN_s {fk : Nat → Nat} {h w m : Nat} {j s : Nat} (hs : s ≠ 5 - j) : (hlN fk h w m (j + 1)).1 s = (hlN fk h w m j).1 s := sorry

/-- the row of the net behind j sizes -/
def hrA (r : Nat → Int32) (hl : Nat → Nat) (j : Nat) : Nat → Int32 := fun s => if 5 - j < s ∧ s ≤ 5 then nI (hl s) else r s
theorem s7_hlA {M : gMem} {o g f m c x t s : Nat} {r : Nat → Int32} {sg : Nat → Nat → Int32} (L : LC o M) (hs1 : 1 ≤ s) (hs : s ≤ 5) (hm : m < 100) (ht : t ≤ 1) (hn : ¬ (m ≤ s ∧ t = 0)) : bb_X7_haulFrom_17 (sC o (up1 sg 11 r) M) o (some (o + (18 + 2 * g))) (some (o + (34 + 2 * f))) (nI m) (nI c) (nI x) (nI t) (nI s) = some (.inl (sC o (up1 sg 11 (up1 r s (nI 0))) M, nI c, nI x, nI t, nI (s - 1))) := sorry

theorem s7_hlB {M : gMem} {o g f m h w c x s n : Nat} {r : Nat → Int32} {sg : Nat → Nat → Int32} (L : LC o M) (hg : g < 8) (hf : f < 8) (hs1 : 1 ≤ s) (hs : s ≤ 5) (hm : m < 100) (hn : n < 100) (en : sg (19 + 2 * g) s = nI n) (hh : h < 100) (eh : sg (34 + 2 * f) 3 = nI h) (hw : w < 100) (ew : sg (34 + 2 * f) 2 = nI w) (hc : c ≤ h) (hx : x ≤ w) (hms : m ≤ s) : bb_X7_haulFrom_17 (sC o (up1 sg 11 r) M) o (some (o + (18 + 2 * g))) (some (o + (34 + 2 * f))) (nI m) (nI c) (nI x) (nI 0) (nI s) = some (.inl (sC o (up1 sg 11 (up1 r s (nI (min (min n (h - c)) ((w - x) / s))))) M, nI (c + min (min n (h - c)) ((w - x) / s)), nI (x + min (min n (h - c)) ((w - x) / s) * s), (if min n (h - c) ≤ (w - x) / s then nI 0 else nI 1), nI (s - 1))) := sorry

theorem s1_tear {M : gMem} {o f : Nat} {sg : Nat → Nat → Int32} (L : LC o M) (hf : f < 8) : f_X1_tear (sC o sg M) (o + (34 + 2 * f)) = some ((), sC o (up2 (up2 sg (34 + 2 * f) 1 (imin (sg (34 + 2 * f) 1 + nI 1) (nI 6))) (34 + 2 * f) 7 (sg (34 + 2 * f) 7 + nI 1)) M) := sorry

/-- the haul of the fisher f at the ground g -/
def hlA (A : Nat → Nat → Int32) (g f : Nat) : (Nat → Nat) × Nat × Nat × Nat := hlN (fun s => (A (19 + 2 * g) s).toNatClampNeg) (A (34 + 2 * f) 3).toNatClampNeg (A (34 + 2 * f) 2).toNatClampNeg (A (34 + 2 * f) 1).toNatClampNeg 5
def tearA (A : Nat → Nat → Int32) (f : Nat) : Nat → Nat → Int32 := up2 (up2 A (34 + 2 * f) 1 (imin (A (34 + 2 * f) 1 + nI 1) (nI 6))) (34 + 2 * f) 7 (A (34 + 2 * f) 7 + nI 1)
/-- the fish of a ground and the numbers of a fisher are in their bounds -/
def okG (A : Nat → Nat → Int32) (g : Nat) : Prop := ∀ s, 1 ≤ s → s ≤ 5 → ∃ n, n ≤ 99 ∧ A (19 + 2 * g) s = nI n
def okF (A : Nat → Nat → Int32) (f : Nat) : Prop := (∃ m, 1 ≤ m ∧ m ≤ 6 ∧ A (34 + 2 * f) 1 = nI m) ∧ (∃ w, w ≤ 99 ∧ A (34 + 2 * f) 2 = nI w) ∧ ∃ h, h ≤ 40 ∧ A (34 + 2 * f) 3 = nI h
theorem s7_haulFrom {M : gMem} {o g f : Nat} {sg : Nat → Nat → Int32} (L : LC o M) (hg : g < 8) (hf : f < 8) (G : okG sg g) (F : okF sg f) : ∃ r, (∀ s, 1 ≤ s → s ≤ 5 → r s = nI ((hlA sg g f).1 s)) ∧ f_X7_haulFrom (sC o sg M) o (some (o + (18 + 2 * g))) (some (o + (34 + 2 * f))) = some ((), sC o (if (hlA sg g f).2.2.2 = 0 then up1 sg 11 r else tearA (up1 sg 11 r) f) M) := sorry
