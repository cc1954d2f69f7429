/-! ## Pure: a haul lands, a fisher sails -/
theorem up2_up1c {α : Type} {sg : Nat → Nat → α} {d e k : Nat} {r : Nat → α} {v : α} (h : d ≠ e) : up2 (up1 sg e r) d k v = up1 (up2 sg d k v) e r := sorry

theorem up2_up2s {α : Type} (sg : Nat → Nat → α) (d k : Nat) (v w : α) : up2 (up2 sg d k v) d k w = up2 sg d k w := sorry

theorem up1_self {α : Type} (sg : Nat → α) (d : Nat) : up1 sg d (sg d) = sg := sorry

theorem up2_self {α : Type} (sg : Nat → Nat → α) (d k : Nat) : up2 sg d k (sg d k) = sg := sorry

/-- of the sizes up to n those that the mesh m keeps: how many, their weight -/
def kpN (hh : Nat → Nat) (m : Nat) : Nat → Nat
  | 0 => 0
  | n + 1 => kpN hh m n + (if m ≤ n + 1 then hh (n + 1) else 0)
def wgN (hh : Nat → Nat) (m : Nat) : Nat → Nat
  | 0 => 0
  | n + 1 => wgN hh m n + (if m ≤ n + 1 then hh (n + 1) * (n + 1) else 0)
def fsN (r : Nat → Int32) (hh : Nat → Nat) (m n : Nat) : Nat → Int32 := fun s => if m ≤ s ∧ 1 ≤ s ∧ s ≤ n then r s - nI (hh s) else r s
def lhN (sg : Nat → Nat → Int32) (g f : Nat) (hh : Nat → Nat) (m n : Nat) : Nat → Nat → Int32 := up1 (up2 sg (34 + 2 * f) 5 (sg (34 + 2 * f) 5 + nI (wgN hh m n))) (19 + 2 * g) (fsN (sg (19 + 2 * g)) hh m n)
theorem fsN_0 (r : Nat → Int32) (hh : Nat → Nat) (m : Nat) : fsN r hh m 0 = r := sorry

theorem fsN_n {r : Nat → Int32} {hh : Nat → Nat} {m n : Nat} (h : ¬ m ≤ n + 1) : fsN r hh m (n + 1) = fsN r hh m n := sorry

theorem fsN_s {r : Nat → Int32} {hh : Nat → Nat} {m n : Nat} (h : m ≤ n + 1) : up1 (fsN r hh m n) (n + 1) (fsN r hh m n (n + 1) - nI (hh (n + 1))) = fsN r hh m (n + 1) := sorry

def ldA (sg : Nat → Nat → Int32) (g f : Nat) (hh : Nat → Nat) (m : Nat) : Nat → Nat → Int32 := up2 (up2 (lhN sg g f hh m 5) (34 + 2 * f) 8 (sg (34 + 2 * f) 8 + nI (kpN hh m 5))) (18 + 2 * g) 2 (sg (18 + 2 * g) 2 + nI (kpN hh m 5))
theorem s7_lhStep {M : gMem} {o g f m n : Nat} {hh : Nat → Nat} {sg : Nat → Nat → Int32} (L : LC o M) (hg : g < 8) (hf : f < 8) (em : sg (34 + 2 * f) 1 = nI m) (hm : m < 100) (hn : n < 5) (eh : sg 11 (n + 1) = nI (hh (n + 1))) : bb_X7_landHaul_5 (sC o (lhN sg g f hh m n) M) o (some (o + (18 + 2 * g))) (some (o + (34 + 2 * f))) (nI (kpN hh m n)) (nI (n + 1)) = some (.inl (sC o (lhN sg g f hh m (n + 1)) M, nI (kpN hh m (n + 1)), nI (n + 2))) := sorry

theorem s7_landHaul {M : gMem} {o g f m : Nat} {hh : Nat → Nat} {sg : Nat → Nat → Int32} (L : LC o M) (hg : g < 8) (hf : f < 8) (em : sg (34 + 2 * f) 1 = nI m) (hm : m < 100) (eh : ∀ s, 1 ≤ s → s ≤ 5 → sg 11 s = nI (hh s)) : f_X7_landHaul (sC o sg M) o (some (o + (18 + 2 * g))) (some (o + (34 + 2 * f))) = some (nI (kpN hh m 5), sC o (ldA sg g f hh m) M) := sorry

/-- the ints of a Shore, those aside that are of use for a moment alone (8 the stack, 9 the lots, 10 the row, 11 the haul) -/
def nz (sg : Nat → Nat → Int32) : Nat → Nat → Int32 := fun d k => if 8 ≤ d ∧ d ≤ 11 then 0 else sg d k
theorem nz_e {sg : Nat → Nat → Int32} {d : Nat} (h : d < 8 ∨ 11 < d) : nz sg d = sg d := sorry

theorem nz_t {sg : Nat → Nat → Int32} {d : Nat} (h : 8 ≤ d ∧ d ≤ 11) : nz sg d = fun _ => 0 := sorry

theorem nz_nz (sg : Nat → Nat → Int32) : nz (nz sg) = nz sg := sorry

theorem nz_up2 {sg : Nat → Nat → Int32} {d k : Nat} {v : Int32} (h : d < 8 ∨ 11 < d) : nz (up2 sg d k v) = up2 (nz sg) d k v := sorry

theorem nz_up1 {sg : Nat → Nat → Int32} {d : Nat} {r : Nat → Int32} (h : d < 8 ∨ 11 < d) : nz (up1 sg d r) = up1 (nz sg) d r := sorry

theorem nz_up1t {sg : Nat → Nat → Int32} {d : Nat} {r : Nat → Int32} (h : 8 ≤ d ∧ d ≤ 11) : nz (up1 sg d r) = nz sg := sorry

theorem nz_up2t {sg : Nat → Nat → Int32} {d k : Nat} {v : Int32} (h : 8 ≤ d ∧ d ≤ 11) : nz (up2 sg d k v) = nz sg := sorry

theorem eqZ_nz (sg : Nat → Nat → Int32) : eqZ sg (nz sg) := sorry

theorem nz_of {sg sg' : Nat → Nat → Int32} (h : eqZ sg sg') : nz sg' = nz sg := sorry

theorem eqZ_of {sg sg' : Nat → Nat → Int32} (h : nz sg' = nz sg) : eqZ sg sg' := sorry

/-- the fisher f is at home -/
def homeA (A : Nat → Nat → Int32) (f : Nat) : Nat → Nat → Int32 := up2 (up2 A (34 + 2 * f) 6 (-1)) (34 + 2 * f) 5 0
/-- the fisher f is at the ground g -/
def thereA (A : Nat → Nat → Int32) (f g : Nat) : Nat → Nat → Int32 := up2 (up2 (up2 A (34 + 2 * f) 6 (nI g)) (34 + 2 * f) 5 0) (18 + 2 * g) 1 (A (18 + 2 * g) 1 + nI 1)
def tornA (A : Nat → Nat → Int32) (f g : Nat) : Nat → Nat → Int32 := if (hlA A g f).2.2.2 = 0 then thereA A f g else tearA (thereA A f g) f
def sailA (A : Nat → Nat → Int32) (f g : Nat) : Nat → Nat → Int32 :=
  up2 (ldA (tornA A f g) g f (hlA A g f).1 (tornA A f g (34 + 2 * f) 1).toNatClampNeg) (35 + 2 * f) g (A (35 + 2 * f) g + nI (kpN (hlA A g f).1 (tornA A f g (34 + 2 * f) 1).toNatClampNeg 5))
theorem s7_home {M : gMem} {o f : Nat} {sg : Nat → Nat → Int32} (L : LC o M) (hf : f < 8) : f_X7_sail (sC o sg M) o (nI f) (-1) = some ((), sC o (homeA sg f) M) := sorry

theorem hlA_there {A : Nat → Nat → Int32} {f g : Nat} (hf : f < 8) (hg : g < 8) : hlA (thereA A f g) g f = hlA A g f := sorry

theorem hlA_congr {A A' : Nat → Nat → Int32} {f g : Nat} (h : eqZ A A') (hf : f < 8) (hg : g < 8) : hlA A' g f = hlA A g f := sorry

theorem imin6 {m : Nat} (h : m ≤ 6) : imin (nI m + nI 1) (nI 6) = nI (min (m + 1) 6) := sorry

theorem s7_sail {M : gMem} {o f g : Nat} {sg : Nat → Nat → Int32} (L : LC o M) (hf : f < 8) (hg : g < 8) (G : okG sg g) (F : okF sg f) : ∃ sg', f_X7_sail (sC o sg M) o (nI f) (nI g) = some ((), sC o sg' M) ∧ nz sg' = sailA (nz sg) f g ∧ sg' 9 = sg 9 := sorry
