/-! ## Pure: what a text says, told by its row of signs: the events (code, token) of its parts -/
def sq (x : Option (Option (List (Nat × Nat)) × Nat)) (f : Nat → Option (Option (List (Nat × Nat)) × Nat)) : Option (Option (List (Nat × Nat)) × Nat) :=
  match x with
  | none => none
  | some (none, k) => some (none, k)
  | some (some es, k) => match f k with
    | none => none
    | some (none, k1) => some (none, k1)
    | some (some es1, k1) => some (some (es ++ es1), k1)
def ft (k : Nat) : Option (Option (List (Nat × Nat)) × Nat) := some (none, k)
def em (e : Nat × Nat) (k : Nat) : Option (Option (List (Nat × Nat)) × Nat) := some (some [e], k)
def tk1 (g : Nat → Nat) (a k : Nat) : Option (Option (List (Nat × Nat)) × Nat) := if g k = a then some (some [], k + 1) else ft k
def nm (g : Nat → Nat) (c k : Nat) : Option (Option (List (Nat × Nat)) × Nat) := if g k = 40 then em (c, k) (k + 1) else ft k
def nb (g : Nat → Nat) (c k : Nat) : Option (Option (List (Nat × Nat)) × Nat) := if g k = 41 then em (c, k) (k + 1) else ft k
def lpS (g : Nat → Nat) (a b : Nat) (f : Nat → Option (Option (List (Nat × Nat)) × Nat)) : Nat → Nat → Option (Option (List (Nat × Nat)) × Nat)
  | 0, _ => none
  | m + 1, k => if g k = a ∨ g k = b then sq (f (k + 1)) (fun k1 => sq (em (g k, k) k1) (lpS g a b f m)) else some (some [], k)
def Px (g : Nat → Nat) : Nat → Nat → Nat → Nat → Option (Option (List (Nat × Nat)) × Nat)
  | 0, _, _, _ => none
  | n + 1, j, k, d =>
    if j = 0 then sq (Px g n 1 k d) (lpS g 22 22 (fun k => Px g n 1 k d) 401)
    else if j = 1 then sq (Px g n 2 k d) (lpS g 21 21 (fun k => Px g n 2 k d) 401)
    else if j = 2 then
      if g k = 20 then (if 8 ≤ d then ft k else sq (Px g n 2 (k + 1) (d + 1)) (em (20, k)))
      else if g k = 27 then (if 8 ≤ d then ft k else sq (Px g n 0 (k + 1) (d + 1)) (tk1 g 28))
      else if g k = 19 then nm g 19 (k + 1)
      else sq (Px g n 4 k d) (fun k => Px g n 3 k d)
    else if j = 3 then (if 35 ≤ g k ∧ g k ≤ 39 then sq (Px g n 4 (k + 1) d) (em (g k, k)) else ft k)
    else if j = 4 then sq (Px g n 5 k d) (lpS g 31 32 (fun k => Px g n 5 k d) 401)
    else if j = 5 then sq (Px g n 6 k d) (lpS g 33 34 (fun k => Px g n 6 k d) 401)
    else
      if g k = 41 then em (41, k) (k + 1)
      else if g k = 15 then em (15, k) (k + 1)
      else if g k = 16 ∨ g k = 17 ∨ g k = 4 then nm g (g k) (k + 1)
      else if g k = 2 ∨ g k = 18 then nm g (g k) (k + 1)
      else if g k = 32 then (if 8 ≤ d then ft k else sq (Px g n 6 (k + 1) (d + 1)) (em (44, k)))
      else if g k = 25 then (if 8 ≤ d then ft k else sq (Px g n 4 (k + 1) (d + 1)) (tk1 g 26))
      else if g k = 23 ∨ g k = 24 then
        (if 8 ≤ d then ft (k + 1) else sq (tk1 g 25 (k + 1)) fun k1 => sq (Px g n 4 k1 (d + 1)) fun k2 => sq (tk1 g 30 k2) fun k3 => sq (Px g n 4 k3 (d + 1)) fun k4 => sq (tk1 g 26 k4) (em (g k, k)))
      else ft k
/-- a row of sizes, a row of members -/
def szL (g : Nat → Nat) : Nat → Nat → Nat → Option (Option (List (Nat × Nat)) × Nat)
  | 0, _, _ => none
  | m + 1, s, k => if g k = 30 then sq (nb g (1000 + s) (k + 1)) (szL g m (s + 1)) else some (some [], k)
def mbL (g : Nat → Nat) : Nat → Nat → Option (Option (List (Nat × Nat)) × Nat)
  | 0, _ => none
  | m + 1, k => if g k = 30 then sq (nm g 62 (k + 1)) (mbL g m) else some (some [], k)
def lnG (g : Nat → Nat) (k : Nat) : Option (Option (List (Nat × Nat)) × Nat) := sq (tk1 g 0 k) fun k => sq (nm g 51 k) fun k => sq (tk1 g 1 k) fun k => sq (nb g 55 k) fun k => sq (tk1 g 2 k) fun k => sq (nb g 1001 k) fun k => szL g 401 2 k
def lnF (g : Nat → Nat) (k : Nat) : Option (Option (List (Nat × Nat)) × Nat) := sq (tk1 g 3 k) fun k => sq (nm g 52 k) fun k => sq (tk1 g 4 k) fun k => sq (nb g 57 k) fun k => sq (tk1 g 5 k) fun k => sq (nb g 58 k) fun k => sq (tk1 g 6 k) fun k => nb g 59 k
def lnO (g : Nat → Nat) (k : Nat) : Option (Option (List (Nat × Nat)) × Nat) := sq (if g k = 7 then em (54, k) (k + 1) else ft k) fun k => sq (nm g 60 k) fun k => sq (tk1 g 8 k) fun k => sq (nm g 61 k) fun k => if g k = 9 then sq (Px g 64 0 (k + 1) 0) (em (64, k)) else em (66, k) k
def lnP (g : Nat → Nat) (k : Nat) : Option (Option (List (Nat × Nat)) × Nat) := sq (tk1 g 10 k) fun k => sq (nm g 53 k) fun k => sq (tk1 g 11 k) fun k => sq (nm g 62 k) fun k => sq (mbL g 401 k) fun k => if g k = 12 then some (some [], k + 1) else sq (tk1 g 13 k) fun k => sq (nm g 63 k) fun k => sq (tk1 g 14 k) fun k => sq (Px g 64 4 k 0) (em (65, k))
def ln1 (g : Nat → Nat) (k : Nat) : Option (Option (List (Nat × Nat)) × Nat) := if g k = 0 then lnG g k else if g k = 3 then lnF g k else if g k = 7 then lnO g k else if g k = 10 then lnP g k else ft k
def txL (g : Nat → Nat) : Nat → Nat → Option (Option (List (Nat × Nat)) × Nat)
  | 0, _ => none
  | m + 1, k => if g k = 42 then some (some [], k) else sq (ln1 g k) fun k => sq (tk1 g 29 k) (txL g m)
/-! facts of the events -/
/-- an event that stands at its own token; what sign stands there -/
def tkC (c : Nat) : Bool := c == 2 || c == 4 || c == 16 || c == 17 || c == 18 || c == 19 || c == 41 || (decide (50 ≤ c) && c != 64 && c != 65 && c != 66)
def kdC (c : Nat) : Nat := if c = 54 then 7 else if c = 41 ∨ (55 ≤ c ∧ c ≤ 59) ∨ 1000 ≤ c then 41 else 40
def ES (g : Nat → Nat) : Nat → List (Nat × Nat) → Nat → Prop
  | k, [], e => k ≤ e
  | k, x :: t, e => if tkC x.1 = true then k ≤ x.2 ∧ g x.2 = kdC x.1 ∧ ES g (x.2 + 1) t e else ES g k t e
/-- the height of the stack behind an event -/
def hC (c h : Nat) : Option Nat :=
  if c = 41 ∨ c = 2 ∨ c = 4 ∨ c = 15 ∨ c = 16 ∨ c = 17 ∨ c = 18 ∨ c = 19 then some (h + 1)
  else if c = 20 ∨ c = 44 then (if 1 ≤ h then some h else none)
  else if c = 21 ∨ c = 22 ∨ c = 23 ∨ c = 24 ∨ (31 ≤ c ∧ c ≤ 39) then (if 2 ≤ h then some (h - 1) else none)
  else if c = 61 ∨ c = 63 then (if h = 0 then some 0 else none)
  else if c = 64 ∨ c = 65 then (if h = 1 then some 0 else none)
  else if c = 66 then (if h = 0 then some 0 else none)
  else if 50 ≤ c then some h else none
def hE : List (Nat × Nat) → Nat → Option Nat
  | [], h => some h
  | x :: t, h => match hC x.1 h with
    | none => none
    | some h1 => hE t h1
theorem hE_app : ∀ (a b : List (Nat × Nat)) (h h1 : Nat), hE a h = some h1 → hE (a ++ b) h = hE b h1 := sorry

theorem ES_le {g : Nat → Nat} : ∀ (a : List (Nat × Nat)) (k e : Nat), ES g k a e → k ≤ e := sorry

theorem ES_dn {g : Nat → Nat} : ∀ (a : List (Nat × Nat)) (k k1 e : Nat), k ≤ k1 → ES g k1 a e → ES g k a e := sorry

theorem ES_app {g : Nat → Nat} : ∀ (a b : List (Nat × Nat)) (k k1 k2 : Nat), ES g k a k1 → ES g k1 b k2 → ES g k (a ++ b) k2 := sorry

/-- what holds of an answer -/
def FP (g : Nat → Nat) (K k z u v w : Nat) (x : Option (Option (List (Nat × Nat)) × Nat)) : Prop :=
  match x with
  | none => True
  | some (none, e) => e ≤ K
  | some (some es, e) => e ≤ K ∧ k + z ≤ e ∧ ES g k es e ∧ ∀ h, (w = 0 → h = 0) → hE es (h + u) = some (h + v)
theorem FP_sq {g : Nat → Nat} {K k z z1 z2 u v t w : Nat} {x : Option (Option (List (Nat × Nat)) × Nat)} {f : Nat → Option (Option (List (Nat × Nat)) × Nat)} (h1 : FP g K k z1 u v w x) (h2 : ∀ e, k + z1 ≤ e → e ≤ K → FP g K e z2 v t w (f e)) (hz : z ≤ z1 + z2) : FP g K k z u t w (sq x f) := sorry

theorem FP_ft {g : Nat → Nat} {K k z u v w e : Nat} (h : e ≤ K) : FP g K k z u v w (ft e) := sorry

theorem FP_nil {g : Nat → Nat} {K k u w : Nat} (h : k ≤ K) : FP g K k 0 u u w (some (some [], k)) := sorry

theorem FP_tk {g : Nat → Nat} {K k u w a : Nat} (H : ∀ i, i ≤ K → g i < 42 → i + 1 ≤ K) (hk : k ≤ K) (ha : a < 42) : FP g K k 1 u u w (tk1 g a k) := sorry

/-- an event without a token -/
theorem FP_op {g : Nat → Nat} {K k u v w c i : Nat} (hc : tkC c = false) (hk : k ≤ K) (hh : ∀ h, (w = 0 → h = 0) → hC c (h + u) = some (h + v)) : FP g K k 0 u v w (em (c, i) k) := sorry

/-- an event with its token -/
theorem FP_ev {g : Nat → Nat} {K k u v w c : Nat} (H : ∀ i, i ≤ K → g i < 42 → i + 1 ≤ K) (hk : k ≤ K) (hg : g k = kdC c) (hk2 : kdC c < 42) (hc : tkC c = true) (hh : ∀ h, (w = 0 → h = 0) → hC c (h + u) = some (h + v)) : FP g K k 1 u v w (em (c, k) (k + 1)) := sorry

theorem FP_nm {g : Nat → Nat} {K k u v w c : Nat} (H : ∀ i, i ≤ K → g i < 42 → i + 1 ≤ K) (hk : k ≤ K) (hg : kdC c = 40) (hc : tkC c = true) (hh : ∀ h, (w = 0 → h = 0) → hC c (h + u) = some (h + v)) : FP g K k 1 u v w (nm g c k) := sorry

theorem FP_nb {g : Nat → Nat} {K k u v w c : Nat} (H : ∀ i, i ≤ K → g i < 42 → i + 1 ≤ K) (hk : k ≤ K) (hg : kdC c = 41) (hc : tkC c = true) (hh : ∀ h, (w = 0 → h = 0) → hC c (h + u) = some (h + v)) : FP g K k 1 u v w (nb g c k) := sorry

theorem FP_dn {g : Nat → Nat} {K k k1 z z1 u v w : Nat} {x : Option (Option (List (Nat × Nat)) × Nat)} (h : FP g K k1 z1 u v w x) (hk : k ≤ k1) (hz : k + z ≤ k1 + z1) : FP g K k z u v w x := sorry

theorem FP_up {g : Nat → Nat} {K k z u v : Nat} {x : Option (Option (List (Nat × Nat)) × Nat)} (h : FP g K k z u v 1 x) : FP g K k z (u + 1) (v + 1) 1 x := sorry

theorem FP_w {g : Nat → Nat} {K k z u v : Nat} {x : Option (Option (List (Nat × Nat)) × Nat)} (h : FP g K k z u v 1 x) : FP g K k z u v 0 x := sorry

theorem hC_bi {c h : Nat} (hc : c = 21 ∨ c = 22 ∨ c = 23 ∨ c = 24 ∨ (31 ≤ c ∧ c ≤ 39)) : hC c (h + 2) = some (h + 1) := sorry

theorem hC_po {c h : Nat} (hc : c = 41 ∨ c = 2 ∨ c = 4 ∨ c = 15 ∨ c = 16 ∨ c = 17 ∨ c = 18 ∨ c = 19) : hC c (h + 0) = some (h + 1) := sorry

theorem tkC_bi : ∀ c, c < 45 → (c = 21 ∨ c = 22 ∨ c = 23 ∨ c = 24 ∨ (31 ≤ c ∧ c ≤ 39)) → tkC c = false := sorry

theorem FP_lp {g : Nat → Nat} {K a b : Nat} {f : Nat → Option (Option (List (Nat × Nat)) × Nat)} (H : ∀ i, i ≤ K → g i < 42 → i + 1 ≤ K) (ha : a = 21 ∨ a = 22 ∨ (31 ≤ a ∧ a ≤ 34)) (hb : b = 21 ∨ b = 22 ∨ (31 ≤ b ∧ b ≤ 34)) (hf : ∀ e, e ≤ K → FP g K e 1 0 1 1 (f e)) : ∀ m k, k ≤ K → FP g K k 0 1 1 1 (lpS g a b f m k) := sorry

theorem FP_Px {g : Nat → Nat} {K : Nat} (H : ∀ i, i ≤ K → g i < 42 → i + 1 ≤ K) : ∀ n j k d, k ≤ K → (j ≠ 3 → FP g K k 1 0 1 1 (Px g n j k d)) ∧ (j = 3 → FP g K k 1 1 1 1 (Px g n j k d)) := sorry

/-! enough fuel -/
theorem sq_ne {x : Option (Option (List (Nat × Nat)) × Nat)} {f : Nat → Option (Option (List (Nat × Nat)) × Nat)} (h1 : x ≠ none) (h2 : ∀ es e, x = some (some es, e) → f e ≠ none) : sq x f ≠ none := sorry

theorem tk1_ne {g : Nat → Nat} {a k : Nat} : tk1 g a k ≠ none := sorry

theorem nm_ne {g : Nat → Nat} {a k : Nat} : nm g a k ≠ none := sorry

theorem nb_ne {g : Nat → Nat} {a k : Nat} : nb g a k ≠ none := sorry

theorem em_ne {e : Nat × Nat} {k : Nat} : em e k ≠ none := sorry

theorem ft_ne {k : Nat} : ft k ≠ none := sorry

theorem tk1_k {g : Nat → Nat} {a k : Nat} {es : List (Nat × Nat)} {e : Nat} (h : tk1 g a k = some (some es, e)) : e = k + 1 ∧ es = [] ∧ g k = a := sorry

theorem FP_e {g : Nat → Nat} {K k z u v w : Nat} {x : Option (Option (List (Nat × Nat)) × Nat)} {es : List (Nat × Nat)} {e : Nat} (h : FP g K k z u v w x) (hx : x = some (some es, e)) : e ≤ K ∧ k + z ≤ e := sorry

theorem lpS_ne {g : Nat → Nat} {K a b : Nat} {f : Nat → Option (Option (List (Nat × Nat)) × Nat)} (H : ∀ i, i ≤ K → g i < 42 → i + 1 ≤ K) (ha : a < 42) (hb : b < 42) (hf : ∀ e, e ≤ K → f e ≠ none) (hF : ∀ e, e ≤ K → FP g K e 1 0 1 1 (f e)) : ∀ m k, k ≤ K → K + 1 ≤ m + k → lpS g a b f m k ≠ none := sorry

def rkP (j : Nat) : Nat := if j = 0 then 7 else if j = 1 then 6 else if j = 2 then 5 else if j = 3 then 4 else if j = 4 then 3 else if j = 5 then 2 else 1
theorem Px_ne {g : Nat → Nat} {K : Nat} (H : ∀ i, i ≤ K → g i < 42 → i + 1 ≤ K) (hK : K ≤ 400) : ∀ n j k d, k ≤ K → d ≤ 8 → rkP j + 7 * (8 - d) ≤ n → Px g n j k d ≠ none := sorry
