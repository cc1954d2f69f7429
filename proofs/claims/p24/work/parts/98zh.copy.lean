/-! ## Pure: the class copies its Shore -/
theorem lTo {o : Nat} {M : gMem} (L : LC o M) : mT M o = 7 := sorry

theorem lT_1 {o : Nat} {M : gMem} (L : LC o M) : mT M (o + 1) = 23 := sorry

theorem lT_2 {o : Nat} {M : gMem} (L : LC o M) : mT M (o + 2) = 24 := sorry

theorem lT_3 {o : Nat} {M : gMem} (L : LC o M) : mT M (o + 3) = 25 := sorry

theorem lT_4 {o : Nat} {M : gMem} (L : LC o M) : mT M (o + 4) = 26 := sorry

theorem lT_5 {o : Nat} {M : gMem} (L : LC o M) : mT M (o + 5) = 8 := sorry

theorem lT_6 {o : Nat} {M : gMem} (L : LC o M) : mT M (o + 6) = 27 := sorry

theorem lT_7 {o : Nat} {M : gMem} (L : LC o M) : mT M (o + 7) = 20 := sorry

theorem lL_1 {o : Nat} {M : gMem} (L : LC o M) : mL M (o + 1) = 8 := sorry

theorem lL_2 {o : Nat} {M : gMem} (L : LC o M) : mL M (o + 2) = 8 := sorry

theorem lL_3 {o : Nat} {M : gMem} (L : LC o M) : mL M (o + 3) = 24 := sorry

theorem lL_4 {o : Nat} {M : gMem} (L : LC o M) : mL M (o + 4) = 6 := sorry

theorem lL_6 {o : Nat} {M : gMem} (L : LC o M) : mL M (o + 6) = 400 := sorry

theorem lL_7 {o : Nat} {M : gMem} (L : LC o M) : mL M (o + 7) = 400 := sorry

theorem lR0_6 {o : Nat} {M : gMem} (L : LC o M) : mR M o 6 = some (o + 1) := sorry

theorem lR0_7 {o : Nat} {M : gMem} (L : LC o M) : mR M o 7 = some (o + 2) := sorry

theorem lR0_8 {o : Nat} {M : gMem} (L : LC o M) : mR M o 8 = some (o + 3) := sorry

theorem lR0_9 {o : Nat} {M : gMem} (L : LC o M) : mR M o 9 = some (o + 4) := sorry

theorem lR0_10 {o : Nat} {M : gMem} (L : LC o M) : mR M o 10 = some (o + 5) := sorry

theorem lR5_1 {o : Nat} {M : gMem} (L : LC o M) : mR M (o + 5) 1 = some (o + 6) := sorry

theorem lR5_2 {o : Nat} {M : gMem} (L : LC o M) : mR M (o + 5) 2 = some (o + 7) := sorry

theorem lTg {o i : Nat} {M : gMem} (L : LC o M) (h : i < 8) : mT M (o + (18 + 2 * i)) = 3 := sorry

theorem lRg {o i : Nat} {M : gMem} (L : LC o M) (h : i < 8) : mR M (o + (18 + 2 * i)) 3 = some (o + (19 + 2 * i)) := sorry

theorem lTgf {o i : Nat} {M : gMem} (L : LC o M) (h : i < 8) : mT M (o + (19 + 2 * i)) = 20 := sorry

theorem lLgf {o i : Nat} {M : gMem} (L : LC o M) (h : i < 8) : mL M (o + (19 + 2 * i)) = 6 := sorry

theorem lTf {o i : Nat} {M : gMem} (L : LC o M) (h : i < 8) : mT M (o + (34 + 2 * i)) = 1 := sorry

theorem lRf {o i : Nat} {M : gMem} (L : LC o M) (h : i < 8) : mR M (o + (34 + 2 * i)) 10 = some (o + (35 + 2 * i)) := sorry

theorem lTft {o i : Nat} {M : gMem} (L : LC o M) (h : i < 8) : mT M (o + (35 + 2 * i)) = 20 := sorry

theorem lLft {o i : Nat} {M : gMem} (L : LC o M) (h : i < 8) : mL M (o + (35 + 2 * i)) = 8 := sorry

theorem lTgo {o i : Nat} {M : gMem} (L : LC o M) (h : i < 24) : mT M (o + (50 + i)) = 2 := sorry

theorem lTp {o i : Nat} {M : gMem} (L : LC o M) (h : i < 6) : mT M (o + (74 + 2 * i)) = 5 := sorry

theorem lRp {o i : Nat} {M : gMem} (L : LC o M) (h : i < 6) : mR M (o + (74 + 2 * i)) 4 = some (o + (75 + 2 * i)) := sorry

theorem lTpf {o i : Nat} {M : gMem} (L : LC o M) (h : i < 6) : mT M (o + (75 + 2 * i)) = 20 := sorry

theorem lLpf {o i : Nat} {M : gMem} (L : LC o M) (h : i < 6) : mL M (o + (75 + 2 * i)) = 8 := sorry

theorem lRrg {o i : Nat} {M : gMem} (L : LC o M) (h : i < 8) : mR M (o + 1) i = some (o + (18 + 2 * i)) := sorry

theorem lRrf {o i : Nat} {M : gMem} (L : LC o M) (h : i < 8) : mR M (o + 2) i = some (o + (34 + 2 * i)) := sorry

theorem lRrgo {o i : Nat} {M : gMem} (L : LC o M) (h : i < 24) : mR M (o + 3) i = some (o + (50 + i)) := sorry

theorem lRrp {o i : Nat} {M : gMem} (L : LC o M) (h : i < 6) : mR M (o + 4) i = some (o + (74 + 2 * i)) := sorry

/-- what a copy of a Shore copies -/
abbrev cpB (jg jf jo jp : Nat) (d k : Nat) : Prop := (d = 0 ∧ k < 6) ∨ (18 ≤ d ∧ d < 18 + 2 * jg ∧ ((d % 2 = 0 ∧ k < 3) ∨ (d % 2 = 1 ∧ 1 ≤ k ∧ k < 6))) ∨ (34 ≤ d ∧ d < 34 + 2 * jf ∧ ((d % 2 = 0 ∧ k < 10) ∨ (d % 2 = 1 ∧ k < 8))) ∨ (50 ≤ d ∧ d < 50 + jo ∧ k < 4) ∨ (74 ≤ d ∧ d < 74 + 2 * jp ∧ ((d % 2 = 0 ∧ (k < 4 ∨ (5 ≤ k ∧ k < 8))) ∨ (d % 2 = 1 ∧ k < 8)))
theorem or5_2 {A B C D E N R : Prop} (h : N ↔ B ∨ R) : (A ∨ N ∨ C ∨ D ∨ E) ↔ ((A ∨ B ∨ C ∨ D ∨ E) ∨ R) := sorry

theorem or5_3 {A B C D E N R : Prop} (h : N ↔ C ∨ R) : (A ∨ B ∨ N ∨ D ∨ E) ↔ ((A ∨ B ∨ C ∨ D ∨ E) ∨ R) := sorry

theorem or5_4 {A B C D E N R : Prop} (h : N ↔ D ∨ R) : (A ∨ B ∨ C ∨ N ∨ E) ↔ ((A ∨ B ∨ C ∨ D ∨ E) ∨ R) := sorry

theorem or5_5 {A B C D E N R : Prop} (h : N ↔ E ∨ R) : (A ∨ B ∨ C ∨ D ∨ N) ↔ ((A ∨ B ∨ C ∨ D ∨ E) ∨ R) := sorry

/-- the ints that P names of the Shore o' are those of o -/
noncomputable def cpD (P : Nat → Nat → Prop) (o' o : Nat) (M : gMem) : gMem := sI M (fun c k => cif ((o' ≤ c ∧ c < o' + 86) ∧ P (c - o') k) (mI M (o + (c - o')) k) (mI M c k))
theorem cpD_o {P : Nat → Nat → Prop} {o' o a : Nat} {M : gMem} (h : a < o' ∨ o' + 86 ≤ a) : mI (cpD P o' o M) a = mI M a := sorry

theorem cpD_i {P : Nat → Nat → Prop} {o' o d k : Nat} {M : gMem} (hd : d < 86) (h : P d k) : mI (cpD P o' o M) (o' + d) k = mI M (o + d) k := sorry

theorem cpD_n {P : Nat → Nat → Prop} {o' o d k : Nat} {M : gMem} (h : ¬ P d k) : mI (cpD P o' o M) (o' + d) k = mI M (o' + d) k := sorry

theorem cpD_F {o' o : Nat} {M : gMem} : cpD (fun _ _ => False) o' o M = M := sorry

theorem cpD_e {P : Nat → Nat → Prop} {o' o : Nat} {M : gMem} {I : Nat → Nat → Int32} (h1 : ∀ c, (c < o' ∨ o' + 86 ≤ c) → I c = mI M c) (h2 : ∀ d k, d < 86 → P d k → I (o' + d) k = mI M (o + d) k) (h3 : ∀ d k, d < 86 → ¬ P d k → I (o' + d) k = mI M (o' + d) k) : sI M I = cpD P o' o M := sorry

theorem cpD_S {P P' : Nat → Nat → Prop} {D : Nat → Nat → Bool} {o o' e : Nat} {M : gMem} (ho : o + 86 ≤ o' ∨ o' + 86 ≤ o) (he : e + 1 < 86) (h : ∀ d k, P' d k ↔ P d k ∨ ((d = e ∨ d = e + 1) ∧ D (d - e) k = true)) : cpS D (o' + e) (o + e) (cpD P o' o M) = cpD P' o' o M := sorry

theorem cpD_L {P P' : Nat → Nat → Prop} {l : List Nat} {o o' e : Nat} {M : gMem} (ho : o + 86 ≤ o' ∨ o' + 86 ≤ o) (he : e < 86) (h : ∀ d k, P' d k ↔ P d k ∨ (d = e ∧ k ∈ l)) : wL (o' + e) (o + e) l (cpD P o' o M) = cpD P' o' o M := sorry

/-- the sums of the Shore o' are those of o, as far as j -/
def cpV (o' o j : Nat) (M : gMem) : gMem := (mT M, mL M, (fun c k => if (c = o' + 5 ∧ k = 0) ∨ (c = o' + 7 ∧ k < j) then mI M (o + (c - o')) k else mI M c k), (fun c k => if c = o' + 6 ∧ k < j then mR M (o + 6) k else mR M c k), mJ M, mN M)
theorem cpV_o {o' o j a : Nat} {M : gMem} (h1 : a ≠ o' + 5) (h2 : a ≠ o' + 7) : mI (cpV o' o j M) a = mI M a := sorry

theorem cpV_r {o' o j a : Nat} {M : gMem} (h1 : a ≠ o' + 6) : mR (cpV o' o j M) a = mR M a := sorry

theorem wR_n {M : gMem} {a k b j : Nat} {v : Option Nat} (h : b ≠ a ∨ j ≠ k) : mR (wR M a k v) b j = mR M b j := sorry

theorem cpV_0 {o' o : Nat} {M : gMem} : wI M (o' + 5) 0 (mI M (o + 5) 0) = cpV o' o 0 M := sorry

theorem cpV_s {o' o j : Nat} {M : gMem} (ho : o + 86 ≤ o' ∨ o' + 86 ≤ o) : wI (wR (cpV o' o j M) (o' + 6) j (mR M (o + 6) j)) (o' + 7) j (mI M (o + 7) j) = cpV o' o (j + 1) M := sorry

theorem s9_copy {Z pg : Nat → Nat} {o o' len : Nat} {X : gMem} (L : LC o X) (L' : LC o' X) (ho : o + 86 ≤ o' ∨ o' + 86 ≤ o) (hZ : ∀ a b : Nat, a < 45 → b < 45 → Z a = Z b → a = b) (h5 : mI X (o + 5) 0 = nI len) (hlen : len ≤ 400) (hs : ∀ i, i < len → pg i < 45 ∧ mR X (o + 6) i = some (Z (pg i))) : f_X9_copyFrom Z X (o' + 5) (some (o + 5)) = some ((), cpV o' o len X) := sorry

theorem s7_cp_p {Z : Nat → Nat} {o o' G F ng np : Nat} {M R : gMem} (L : LC o M) (L' : LC o' M) (ho : o + 86 ≤ o' ∨ o' + 86 ≤ o) (hb : np ≤ 6) (hc : mI M o 5 = nI np) (nx : f_X9_copyFrom Z (cpD (cpB G F ng np) o' o M) (o' + 5) (some (o + 5)) = some ((), R)) : lp_X7_copyFrom_143 Z (cpD (cpB G F ng 0) o' o M) o' (some o) (nI 0) = some ((), R) := sorry

theorem s7_cp_o {Z : Nat → Nat} {o o' G F ng np : Nat} {M R : gMem} (L : LC o M) (L' : LC o' M) (ho : o + 86 ≤ o' ∨ o' + 86 ≤ o) (hb : ng ≤ 24) (hc : mI M o 4 = nI ng) (nx : lp_X7_copyFrom_143 Z (cpD (cpB G F ng 0) o' o M) o' (some o) (nI 0) = some ((), R)) : lp_X7_copyFrom_112 Z (cpD (cpB G F 0 0) o' o M) o' (some o) (nI 0) = some ((), R) := sorry

theorem s7_cp_f {Z : Nat → Nat} {o o' G F ng np : Nat} {M R : gMem} (L : LC o M) (L' : LC o' M) (ho : o + 86 ≤ o' ∨ o' + 86 ≤ o) (hb : F ≤ 8) (hc : mI M o 3 = nI F) (h9 : ∀ f, f < F → mI M (o + (34 + 2 * f)) 9 = 0 ∨ mI M (o + (34 + 2 * f)) 9 = 1) (nx : lp_X7_copyFrom_112 Z (cpD (cpB G F 0 0) o' o M) o' (some o) (nI 0) = some ((), R)) : lp_X7_copyFrom_81 Z (cpD (cpB G 0 0 0) o' o M) o' (some o) (nI 0) = some ((), R) := sorry

theorem s7_cp_g {Z : Nat → Nat} {o o' G F ng np : Nat} {M R : gMem} (L : LC o M) (L' : LC o' M) (ho : o + 86 ≤ o' ∨ o' + 86 ≤ o) (hb : G ≤ 8) (hc : mI M o 2 = nI G) (nx : lp_X7_copyFrom_81 Z (cpD (cpB G 0 0 0) o' o M) o' (some o) (nI 0) = some ((), R)) : lp_X7_copyFrom_50 Z (cpD (cpB 0 0 0 0) o' o M) o' (some o) (nI 0) = some ((), R) := sorry

theorem s7_copy {Z pg : Nat → Nat} {o o' G F ng np len : Nat} {M : gMem} (L : LC o M) (L' : LC o' M) (ho : o + 86 ≤ o' ∨ o' + 86 ≤ o) (hG : G ≤ 8) (hF : F ≤ 8) (hg : ng ≤ 24) (hp : np ≤ 6) (c2 : mI M o 2 = nI G) (c3 : mI M o 3 = nI F) (c4 : mI M o 4 = nI ng) (c5 : mI M o 5 = nI np) (h9 : ∀ f, f < F → mI M (o + (34 + 2 * f)) 9 = 0 ∨ mI M (o + (34 + 2 * f)) 9 = 1) (hZ : ∀ a b : Nat, a < 45 → b < 45 → Z a = Z b → a = b) (h5 : mI M (o + 5) 0 = nI len) (hlen : len ≤ 400) (hs : ∀ i, i < len → pg i < 45 ∧ mR M (o + 6) i = some (Z (pg i))) : f_X7_copyFrom Z M o' (some o) = some ((), cpV o' o len (cpD (cpB G F ng np) o' o M)) := sorry
