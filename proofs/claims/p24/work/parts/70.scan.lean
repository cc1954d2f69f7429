/-! ## Pure: the tape is scanned -/
/-- the memory with these ints, references and longs -/
def gm (M : gMem) (I : Nat → Nat → Int32) (R : Nat → Nat → Option Nat) (J : Nat → Nat → Int64) : gMem := (mT M, mL M, I, R, J, mN M)
theorem gm_T (M : gMem) (I : Nat → Nat → Int32) (R : Nat → Nat → Option Nat) (J : Nat → Nat → Int64) : mT (gm M I R J) = mT M := sorry

theorem gm_L (M : gMem) (I : Nat → Nat → Int32) (R : Nat → Nat → Option Nat) (J : Nat → Nat → Int64) : mL (gm M I R J) = mL M := sorry

theorem gm_I (M : gMem) (I : Nat → Nat → Int32) (R : Nat → Nat → Option Nat) (J : Nat → Nat → Int64) : mI (gm M I R J) = I := sorry

theorem gm_R (M : gMem) (I : Nat → Nat → Int32) (R : Nat → Nat → Option Nat) (J : Nat → Nat → Int64) : mR (gm M I R J) = R := sorry

theorem gm_J (M : gMem) (I : Nat → Nat → Int32) (R : Nat → Nat → Option Nat) (J : Nat → Nat → Int64) : mJ (gm M I R J) = J := sorry

theorem gm_N (M : gMem) (I : Nat → Nat → Int32) (R : Nat → Nat → Option Nat) (J : Nat → Nat → Int64) : mN (gm M I R J) = mN M := sorry

theorem gm_wI (M : gMem) (I : Nat → Nat → Int32) (R : Nat → Nat → Option Nat) (J : Nat → Nat → Int64) (a k : Nat) (v : Int32) : wI (gm M I R J) a k v = gm M (up2 I a k v) R J := sorry

theorem gm_wR (M : gMem) (I : Nat → Nat → Int32) (R : Nat → Nat → Option Nat) (J : Nat → Nat → Int64) (a k : Nat) (v : Option Nat) : wR (gm M I R J) a k v = gm M I (up2 R a k v) J := sorry

theorem gm_wJ (M : gMem) (I : Nat → Nat → Int32) (R : Nat → Nat → Option Nat) (J : Nat → Nat → Int64) (a k : Nat) (v : Int64) : wJ (gm M I R J) a k v = gm M I R (up2 J a k v) := sorry

theorem gm_self (M : gMem) : gm M (mI M) (mR M) (mJ M) = M := sorry

/-- letters, digits, blanks; a byte as the class has it -/
def isL (x : Nat) : Bool := decide (97 ≤ x) && decide (x ≤ 122)
def isD (x : Nat) : Bool := decide (48 ≤ x) && decide (x ≤ 57)
def isA (x : Nat) : Bool := isL x || isD x
def isB (x : Nat) : Bool := decide (x = 32) || decide (x = 10)
def sB (x : Nat) : Int32 := if x < 128 then nI x else nI x - nI 256
theorem sB_1 : ∀ x, x < 256 → ((sB x < (97 : Int32) ∨ (122 : Int32) < sB x) ↔ isL x = false) ∧ ((sB x < (48 : Int32) ∨ (57 : Int32) < sB x) ↔ isD x = false) := sorry

theorem sB_2 : ∀ x, x < 256 → (sB x = (32 : Int32) ↔ x = 32) ∧ (sB x = (10 : Int32) ↔ x = 10) := sorry

theorem sB_lo {x : Nat} (h : x < 128) : sB x = nI x := sorry

/-- the first place from q on, of d, where P doesn't hold -/
def stp (P : Nat → Bool) (T : Nat → Nat) : Nat → Nat → Nat
  | 0, q => q
  | d + 1, q => if P (T q) then stp P T d (q + 1) else q
theorem stp_p {P : Nat → Bool} {T : Nat → Nat} : ∀ d q, q ≤ stp P T d q ∧ stp P T d q ≤ q + d ∧ (∀ j, q ≤ j → j < stp P T d q → P (T j) = true) ∧ (stp P T d q = q + d ∨ P (T (stp P T d q)) = false) := sorry

/-- the first place of d from i on where q holds; whether q holds at all -/
def fndN (q : Nat → Bool) : Nat → Nat → Option Nat
  | 0, _ => none
  | d + 1, i => if q i then some i else fndN q d (i + 1)
def alN (q : Nat → Bool) : Nat → Nat → Bool
  | 0, _ => true
  | d + 1, i => if q i then alN q d (i + 1) else false
theorem fndN_s {q : Nat → Bool} : ∀ d i k, fndN q d i = some k → i ≤ k ∧ k < i + d ∧ q k = true := sorry

theorem fndN_n {q : Nat → Bool} : ∀ d i, fndN q d i = none → ∀ k, i ≤ k → k < i + d → q k = false := sorry

theorem fndN_c {q r : Nat → Bool} : ∀ d i, (∀ k, i ≤ k → k < i + d → q k = r k) → fndN q d i = fndN r d i := sorry

theorem alN_t {q : Nat → Bool} : ∀ d i, alN q d i = true ↔ ∀ k, i ≤ k → k < i + d → q k = true := sorry

theorem lp_find {α β : Type} {f : α → Option (α ⊕ β)} (s : Nat → α) (q : Nat → Bool) (b : Nat → β) (bN : β) : ∀ d i, (∀ j, i ≤ j → j < i + d → f (s j) = if q j then some (.inr (b j)) else some (.inl (s (j + 1)))) → f (s (i + d)) = some (.inr bN) → lp f (s i) = some (match fndN q d i with | some j => b j | none => bN) := sorry

/-! the JDK's strings -/
theorem js_0 : ∀ i, i < 71 → Int32.ofNat (sLn i) >>> ((0 : Int32) &&& 31) = nI (sLn i) := sorry

theorem js_1 : ∀ i, i < 71 → ∀ j, j < 14 → j < sLn i → i2cV (sBy i j &&& (255 : Int32)) = sBy i j ∧ i2cV (sBy i j) = sBy i j := sorry

theorem js_2 : ∀ i, i < 71 → sLn i < 14 := sorry

theorem js_len {Z : Nat → Nat} {M : gMem} {i : Nat} (h : i < 71) : f_J0_length_8abf5 Z M i = some (nI (sLn i), M) := sorry

theorem js_char {Z : Nat → Nat} {M : gMem} {i j : Nat} (h : i < 71) (hj : j < sLn i) : f_J0_charAt_5068e Z M i (nI j) = some (sBy i j, M) := sorry

/-! the class's tape at p -/
def TP (p n : Nat) (T : Nat → Nat) (M : gMem) (I : Nat → Nat → Int32) (R : Nat → Nat → Option Nat) : Prop :=
  (mT M p = 9 ∧ mT M (p + 1) = 22 ∧ mL M (p + 1) = 2000 ∧ mT M (p + 2) = 27 ∧ mL M (p + 2) = 401 ∧ mT M (p + 3) = 20 ∧ mL M (p + 3) = 401 ∧ mT M (p + 4) = 21 ∧ mL M (p + 4) = 401) ∧
  (R p 1 = some (p + 1) ∧ R p 2 = some (p + 2) ∧ R p 3 = some (p + 3) ∧ R p 4 = some (p + 4)) ∧ I p 0 = nI n ∧ n ≤ 2000 ∧ ∀ q, q < n → I (p + 1) q = sB (T q) ∧ T q < 256
theorem TP_I {p n : Nat} {T : Nat → Nat} {M : gMem} {I I' : Nat → Nat → Int32} {R : Nat → Nat → Option Nat} (P : TP p n T M I R) (h0 : I' p 0 = I p 0) (h1 : ∀ q, q < n → I' (p + 1) q = I (p + 1) q) : TP p n T M I' R := sorry

theorem TP_R {p n : Nat} {T : Nat → Nat} {M : gMem} {I : Nat → Nat → Int32} {R R' : Nat → Nat → Option Nat} (P : TP p n T M I R) (h : R' p = R p) : TP p n T M I R' := sorry

theorem TP_5 {p n : Nat} {T : Nat → Nat} {M : gMem} {I : Nat → Nat → Int32} {R : Nat → Nat → Option Nat} {v : Int32} (P : TP p n T M I R) : TP p n T M (up2 I p 5 v) R := sorry

/-- the byte at a place, 0 behind the end -/
def tb (T : Nat → Nat) (n q : Nat) : Int32 := if q < n then sB (T q) else 0
theorem c_at {p n q : Nat} {T : Nat → Nat} {M : gMem} {I : Nat → Nat → Int32} {R : Nat → Nat → Option Nat} {J : Nat → Nat → Int64} (P : TP p n T M I R) (hq : q < 2 ^ 30) : f_X10_at (gm M I R J) p (nI q) = some (tb T n q, gm M I R J) := sorry

theorem c_isLetter {p n q : Nat} {T : Nat → Nat} {M : gMem} {I : Nat → Nat → Int32} {R : Nat → Nat → Option Nat} {J : Nat → Nat → Int64} (P : TP p n T M I R) (hq : q < 2 ^ 30) : f_X10_isLetter (gm M I R J) p (nI q) = some (if q < n ∧ isL (T q) = true then 1 else 0, gm M I R J) := sorry

theorem c_isDigit {p n q : Nat} {T : Nat → Nat} {M : gMem} {I : Nat → Nat → Int32} {R : Nat → Nat → Option Nat} {J : Nat → Nat → Int64} (P : TP p n T M I R) (hq : q < 2 ^ 30) : f_X10_isDigit (gm M I R J) p (nI q) = some (if q < n ∧ isD (T q) = true then 1 else 0, gm M I R J) := sorry

/-- behind the blanks from a on -/
def skp (T : Nat → Nat) (n a : Nat) : Nat := stp isB T (n - a) a
theorem c_skip {p n a : Nat} {T : Nat → Nat} {M : gMem} {I : Nat → Nat → Int32} {R : Nat → Nat → Option Nat} {J : Nat → Nat → Int64} (P : TP p n T M I R) (ha : a ≤ n) (h5 : I p 5 = nI a) : f_X10_skipBlanks (gm M I R J) p = some ((), gm M (up2 I p 5 (nI (skp T n a))) R J) := sorry

/-- whether the text of a sign stands at a, l bytes -/
def mt (T : Nat → Nat) (n a l i : Nat) : Bool := decide (sLn i = l) && alN (fun j => decide (tb T n (a + j) = sBy i j)) l 0
theorem lp_all {α β : Type} {f : α → Option (α ⊕ β)} (s : Nat → α) (q : Nat → Bool) (b c : β) : ∀ d i, (∀ j, i ≤ j → j < i + d → f (s j) = if q j then some (.inl (s (j + 1))) else some (.inr c)) → f (s (i + d)) = some (.inr b) → lp f (s i) = some (if alN q d i then b else c) := sorry

theorem c_reads {Z : Nat → Nat} {p n a l i : Nat} {T : Nat → Nat} {M : gMem} {I : Nat → Nat → Int32} {R : Nat → Nat → Option Nat} {J : Nat → Nat → Int64} (P : TP p n T M I R) (ha : a < 2 ^ 20) (hl : l < 2 ^ 20) (hi : i < 71) : f_X10_reads Z (gm M I R J) p i (nI a) (nI l) = some (if mt T n a l i then 1 else 0, gm M I R J) := sorry

theorem c_signOf {Z : Nat → Nat} {p n a l : Nat} {r : Option Nat} {T : Nat → Nat} {M : gMem} {I : Nat → Nat → Int32} {R : Nat → Nat → Option Nat} {J : Nat → Nat → Int64} (P : TP p n T M I R) (hZ : ∀ a b : Nat, a < 45 → b < 45 → Z a = Z b → a = b) (ha : a < 2 ^ 20) (hl : l < 2 ^ 20) : f_X10_signOf Z (gm M I R J) p (nI a) (nI l) r = some (match fndN (mt T n a l) 45 0 with | some i => some (Z i) | none => r, gm M I R J) := sorry

/-- the sign at a place where neither a letter nor a digit stands, and its length -/
def symG (T : Nat → Nat) (n a : Nat) : Nat × Nat := match fndN (mt T n a 2) 45 0 with
  | some i => (i, 2)
  | none => match fndN (mt T n a 1) 45 0 with
    | some i => (i, 1)
    | none => (43, 0)
theorem mt_len {T : Nat → Nat} {n a l i : Nat} (h : mt T n a l i = true) : sLn i = l := sorry

theorem c_scanSymbol {Z : Nat → Nat} {p n a : Nat} {T : Nat → Nat} {M : gMem} {I : Nat → Nat → Int32} {R : Nat → Nat → Option Nat} {J : Nat → Nat → Int64} (P : TP p n T M I R) (hZ : ∀ a b : Nat, a < 45 → b < 45 → Z a = Z b → a = b) (ha : a < 2 ^ 20) (h5 : I p 5 = nI a) : f_X10_scanSymbol Z (gm M I R J) p = some (some (Z (symG T n a).1), gm M (up2 I p 5 (nI (a + (symG T n a).2))) R J) := sorry

/-- what a letter or digit counts; a word of l bytes as a number, a number of l bytes -/
def dg (c : Nat) : Nat := if 97 ≤ c then c - 97 + 11 else c - 48 + 1
def wv (T : Nat → Nat) (a : Nat) : Nat → Nat
  | 0 => 0
  | l + 1 => wv T a l * 37 + dg (T (a + l))
def nv (T : Nat → Nat) (a : Nat) : Nat → Nat
  | 0 => 0
  | l + 1 => nv T a l * 10 + (T (a + l) - 48)
def wEnd (T : Nat → Nat) (n a : Nat) : Nat := stp isA T (n - a) a
def nEnd (T : Nat → Nat) (n a : Nat) : Nat := stp isD T (n - a) a
/-- the word at a: its sign -/
def wdG (T : Nat → Nat) (n a : Nat) : Nat := if wEnd T n a - a ≤ 10 then (match fndN (mt T n a (wEnd T n a - a)) 45 0 with | some i => i | none => 40) else 43
def nmG (T : Nat → Nat) (n a : Nat) : Nat := if nEnd T n a - a ≤ 6 then 41 else 43
theorem c_scanWord {Z : Nat → Nat} {p n a i : Nat} {T : Nat → Nat} {M : gMem} {I : Nat → Nat → Int32} {R : Nat → Nat → Option Nat} {J : Nat → Nat → Int64} (P : TP p n T M I R) (hZ : ∀ a b : Nat, a < 45 → b < 45 → Z a = Z b → a = b) (ha : a ≤ n) (h5 : I p 5 = nI a) (hi : i < 401) : f_X10_scanWord Z (gm M I R J) p (nI i) = some (some (Z (wdG T n a)), gm M (up2 I p 5 (nI (wEnd T n a))) R (up2 J (p + 4) i (lN (wv T a (wEnd T n a - a))))) := sorry

theorem c_scanNumber {Z : Nat → Nat} {p n a i : Nat} {T : Nat → Nat} {M : gMem} {I : Nat → Nat → Int32} {R : Nat → Nat → Option Nat} {J : Nat → Nat → Int64} (P : TP p n T M I R) (ha : a ≤ n) (h5 : I p 5 = nI a) (hi : i < 401) : f_X10_scanNumber Z (gm M I R J) p (nI i) = some (some (Z (nmG T n a)), gm M (up2 I p 5 (nI (nEnd T n a))) R (up2 J (p + 4) i (lN (nv T a (nEnd T n a - a))))) := sorry

/-- the token at a: its sign, its end -/
def tkG (T : Nat → Nat) (n a : Nat) : Nat := if a < n then (if isL (T a) then wdG T n a else if isD (T a) then nmG T n a else (symG T n a).1) else 42
def tkE (T : Nat → Nat) (n a : Nat) : Nat := if a < n then (if isL (T a) then wEnd T n a else if isD (T a) then nEnd T n a else a + (symG T n a).2) else a
/-- what is told of a token: of a word and of a number what they are -/
def tkJ (T : Nat → Nat) (n a : Nat) : Option Nat := if a < n then (if isL (T a) then some (wv T a (wEnd T n a - a)) else if isD (T a) then some (nv T a (nEnd T n a - a)) else none) else none
theorem c_scanToken {Z : Nat → Nat} {p n a i : Nat} {T : Nat → Nat} {M : gMem} {I : Nat → Nat → Int32} {R : Nat → Nat → Option Nat} {J : Nat → Nat → Int64} (P : TP p n T M I R) (hZ : ∀ a b : Nat, a < 45 → b < 45 → Z a = Z b → a = b) (ha : a ≤ n) (h5 : I p 5 = nI a) (hi : i < 401) : f_X10_scanToken Z (gm M I R J) p (nI i) = some (some (Z (tkG T n a)), gm M (up2 I p 5 (nI (tkE T n a))) R (match tkJ T n a with | some v => up2 J (p + 4) i (lN v) | none => J)) := sorry

/-- where token i begins -/
def pos (T : Nat → Nat) (n : Nat) : Nat → Nat
  | 0 => skp T n 0
  | i + 1 => skp T n (tkE T n (pos T n i))
/-- the sign of token i -/
def tok (T : Nat → Nat) (n i : Nat) : Nat := if i < 400 ∨ n ≤ pos T n i then tkG T n (pos T n i) else 43
theorem symG_e (T : Nat → Nat) (n a : Nat) (h : a < n) : a + (symG T n a).2 ≤ n ∨ (symG T n a).1 = 43 := sorry

theorem skp_le {T : Nat → Nat} {n a : Nat} (h : a ≤ n) : a ≤ skp T n a ∧ skp T n a ≤ n := sorry

theorem tkE_le {T : Nat → Nat} {n a : Nat} (h : a ≤ n) : a ≤ tkE T n a ∧ tkE T n a ≤ n := sorry

/-- where the looking for token i begins -/
def bgn (T : Nat → Nat) (n : Nat) : Nat → Nat
  | 0 => 0
  | i + 1 => tkE T n (pos T n i)
theorem pos_b (T : Nat → Nat) (n : Nat) : ∀ i, pos T n i = skp T n (bgn T n i) := sorry

theorem pos_le (T : Nat → Nat) (n : Nat) : ∀ i, bgn T n i ≤ n ∧ pos T n i ≤ n := sorry

theorem fnd_g {T : Nat → Nat} {n a l i : Nat} (hl : 1 ≤ l) (h : fndN (mt T n a l) 45 0 = some i) : i < 40 := sorry

theorem tkG_lt {T : Nat → Nat} {n a : Nat} (h : a ≤ n) : tkG T n a < 45 ∧ (42 ≤ tkG T n a → tkG T n a = 42 ∨ tkG T n a = 43) := sorry

theorem tok_lt (T : Nat → Nat) (n i : Nat) : tok T n i < 45 ∧ (42 ≤ tok T n i → tok T n i = 42 ∨ tok T n i = 43) := sorry

theorem tok_400 (T : Nat → Nat) (n : Nat) : 42 ≤ tok T n 400 := sorry

/-- what a scan leaves -/
def scanned (Z : Nat → Nat) (T : Nat → Nat) (n p m : Nat) (I I' : Nat → Nat → Int32) (R R' : Nat → Nat → Option Nat) (J J' : Nat → Nat → Int64) : Prop :=
  (∀ i, i < m → I' (p + 3) i = nI (pos T n i) ∧ R' (p + 2) i = some (Z (tok T n i)) ∧ (i < 400 → ∀ v, tkJ T n (pos T n i) = some v → J' (p + 4) i = lN v)) ∧
  (∀ a k, a ≠ p + 3 → (a ≠ p ∨ k ≠ 5) → I' a k = I a k) ∧ (∀ a, a ≠ p + 2 → R' a = R a) ∧ ∀ a, a ≠ p + 4 → J' a = J a
theorem c_scan {Z : Nat → Nat} {p n : Nat} {T : Nat → Nat} {M : gMem} {I : Nat → Nat → Int32} {R : Nat → Nat → Option Nat} {J : Nat → Nat → Int64} (P : TP p n T M I R) (hZ : ∀ a b : Nat, a < 45 → b < 45 → Z a = Z b → a = b) : ∃ I' R' J' K, f_X10_scan Z (gm M I R J) p = some ((), gm M I' R' J') ∧ K ≤ 400 ∧ scanned Z T n p (K + 1) I I' R R' J J' ∧ (∀ i, i < K → tok T n i < 42) ∧ 42 ≤ tok T n K := sorry
