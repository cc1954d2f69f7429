/-! ## Pure: a Shore is made -/
def parE (e : Nat) : Nat × Nat :=
  if e < 18 then [(0, 0), (0, 6), (0, 7), (0, 8), (0, 9), (0, 10), (5, 1), (5, 2), (5, 3), (0, 11), (0, 12), (0, 13), (0, 14), (12, 3), (0, 15), (14, 10), (0, 16), (16, 4)].getD e (0, 0)
  else if e < 34 then (if e % 2 = 0 then (1, (e - 18) / 2) else (e - 1, 3))
  else if e < 50 then (if e % 2 = 0 then (2, (e - 34) / 2) else (e - 1, 10))
  else if e < 74 then (3, e - 50)
  else (if e % 2 = 0 then (4, (e - 74) / 2) else (e - 1, 4))
theorem layR_p {d k e : Nat} (h : layR d k = some e) : e < 86 ∧ d < e ∧ parE e = (d, k) := sorry

/-- a block of n cells at o -/
def blk {α : Type} (o n : Nat) (F G : Nat → α) : Nat → α := fun a => if o ≤ a ∧ a < o + n then F (a - o) else G a
theorem blk_i {α : Type} {o n d : Nat} {F G : Nat → α} (h : d < n) : blk o n F G (o + d) = F d := sorry

theorem blk_o {α : Type} {o n a : Nat} {F G : Nat → α} (h : a < o ∨ o + n ≤ a) : blk o n F G a = G a := sorry

theorem blk_n {α : Type} {o n : Nat} {F G : Nat → α} {v : α} (h : F n = v) : up1 (blk o n F G) (o + n) v = blk o (n + 1) F G := sorry

theorem blk_u {α : Type} {o n d k : Nat} {F G : Nat → Nat → α} {v : α} (h : d < n) : up2 (blk o n F G) (o + d) k v = blk o n (up2 F d k v) G := sorry

theorem blk_c {α : Type} {o n : Nat} {F F' G : Nat → α} (h : ∀ d, d < n → F d = F' d) : blk o n F G = blk o n F' G := sorry

def mkB (o n : Nat) (T L : Nat → Nat) (I : Nat → Nat → Int32) (R : Nat → Nat → Option Nat) (M : gMem) : gMem :=
  (blk o n T (mT M), blk o n L (mL M), blk o n I (mI M), blk o n R (mR M), blk o n (fun _ _ => 0) (mJ M), o + n)
theorem mkB_0 {o : Nat} {T L : Nat → Nat} {I : Nat → Nat → Int32} {R : Nat → Nat → Option Nat} {M : gMem} (e : mN M = o) : M = mkB o 0 T L I R M := sorry

theorem mkB_n {o n t l : Nat} {T L : Nat → Nat} {I : Nat → Nat → Int32} {R : Nat → Nat → Option Nat} {M : gMem} (ht : T n = t) (hl : L n = l) (hi : I n = fun _ => 0) (hr : R n = fun _ => none) : nW (mkB o n T L I R M) t l = mkB o (n + 1) T L I R M := sorry

theorem mkB_I {o n d k : Nat} {v : Int32} {T L : Nat → Nat} {I : Nat → Nat → Int32} {R : Nat → Nat → Option Nat} {M : gMem} (h : d < n) : wI (mkB o n T L I R M) (o + d) k v = mkB o n T L (up2 I d k v) R M := sorry

theorem mkB_R {o n d k : Nat} {v : Option Nat} {T L : Nat → Nat} {I : Nat → Nat → Int32} {R : Nat → Nat → Option Nat} {M : gMem} (h : d < n) : wR (mkB o n T L I R M) (o + d) k v = mkB o n T L I (up2 R d k v) M := sorry

/-- the references, as far as P tells -/
noncomputable def rSh (o : Nat) (w : Nat → Option Nat) (P : Nat → Prop) (d k : Nat) : Option Nat := if d = 6 then w k else (layR d k).bind (fun e => cif (P e) (some (o + e)) none)
theorem rSh_u {o d k e : Nat} {w : Nat → Option Nat} {P : Nat → Prop} (h : layR d k = some e) (h6 : d ≠ 6) : up2 (rSh o w P) d k (some (o + e)) = rSh o w (fun x => P x ∨ x = e) := sorry

theorem rSh_n {o n : Nat} {w : Nat → Option Nat} {P : Nat → Prop} (h : ∀ x, P x → x ≤ n) (h6 : n = 6 → w = fun _ => none) : rSh o w P n = fun _ => none := sorry

theorem rSh_v {o d k e : Nat} {w : Nat → Option Nat} {P : Nat → Prop} (h : layR d k = some e) (h6 : d ≠ 6) (p : P e) : rSh o w P d k = some (o + e) := sorry

theorem rSh_c {o : Nat} {w : Nat → Option Nat} {P Q : Nat → Prop} (h : ∀ x, P x ↔ Q x) : rSh o w P = rSh o w Q := sorry

/-- the ints of a new Shore -/
def IN (d k : Nat) : Int32 :=
  if d = 0 then (if k = 1 then 1 else 0)
  else if d = 14 ∨ (34 ≤ d ∧ d < 50 ∧ d % 2 = 0) then (if k = 6 then -1 else 0)
  else if d = 16 ∨ (74 ≤ d ∧ d % 2 = 0) then (if k = 0 then -1 else 0)
  else 0
/-- n cells of a new Shore stand -/
noncomputable def shS (o n : Nat) (w : Nat → Option Nat) (P : Nat → Prop) (M : gMem) : gMem := mkB o n layT layL IN (rSh o w P) M

