/-! ## Pure: the class's tests and sums say what Px says -/
theorem gSw_0 : ∀ c, c < 45 → (gSw c = 5 ↔ c = 20) ∧ (gSw c = 6 ↔ c = 27) ∧ (gSw c = 7 ↔ c = 19) ∧ (gSw c = 8 ↔ c = 35) ∧ (gSw c = 9 ↔ c = 36) ∧ (gSw c = 10 ↔ c = 37) ∧ (gSw c = 11 ↔ c = 38) ∧ (gSw c = 12 ↔ c = 39) := sorry

theorem gSw_1 : ∀ c, c < 45 → (gSw c = 13 ↔ c = 41) ∧ (gSw c = 14 ↔ c = 15) ∧ (gSw c = 15 ↔ c = 16) ∧ (gSw c = 16 ↔ c = 17) ∧ (gSw c = 17 ↔ c = 4) ∧ (gSw c = 18 ↔ c = 2) ∧ (gSw c = 19 ↔ c = 18) ∧ (gSw c = 20 ↔ c = 32) ∧ (gSw c = 21 ↔ c = 25) ∧ (gSw c = 22 ↔ c = 23) ∧ (gSw c = 23 ↔ c = 24) := sorry

def sim (r : Nat) (A B : gMem) : Prop := ∀ k, at' r k A = at' r k B
theorem sim_rn {Z : Nat → Nat} {r p o : Nat} {A B : gMem} (h : sim r A B) : ∀ a, sim r (rnE Z r p o a A) (rnE Z r p o a B) := sorry

theorem sim_at {r j : Nat} {A : gMem} : sim r (at' r j A) A := sorry

theorem sim_tr {r : Nat} {A B C : gMem} (h1 : sim r A B) (h2 : sim r B C) : sim r A C := sorry

theorem sim_s {r : Nat} {A B : gMem} (h1 : sim r A B) : sim r B A := sorry

theorem sim_ad {Z : Nat → Nat} {r o c : Nat} {v : Int32} {A B : gMem} (ho : o + 86 ≤ r) (h : sim r A B) : sim r (adM Z o c v A) (adM Z o c v B) := sorry

/-- from M the program's answer y is what x says -/
def CRl (Z : Nat → Nat) (r p o : Nat) (M0 M : gMem) (x : Option (Option (List (Nat × Nat)) × Nat)) (y : Option (Int32 × gMem)) : Prop :=
  match x with
  | none => True
  | some (none, e) => ∃ M1, y = some ((0 : Int32), M1) ∧ CI r o M0 M1 ∧ mI M1 r 6 = nI e
  | some (some es, e) => ∃ M1, y = some ((1 : Int32), M1) ∧ CI r o M0 M1 ∧ mI M1 r 6 = nI e ∧ sim r M1 (rnE Z r p o es M)
theorem CR_sq {Z : Nat → Nat} {r p o : Nat} {M0 M : gMem} {x : Option (Option (List (Nat × Nat)) × Nat)} {f : Nat → Option (Option (List (Nat × Nat)) × Nat)} {y : Option (Int32 × gMem)} {A B : gMem → Option (Int32 × gMem)} (h : CRl Z r p o M0 M x y) (hA : ∀ M1, CI r o M0 M1 → ∃ M2, A M1 = some ((0 : Int32), M2) ∧ CI r o M0 M2 ∧ mI M2 r 6 = mI M1 r 6) (hB : ∀ es M1 e, x = some (some es, e) → CI r o M0 M1 → mI M1 r 6 = nI e → CRl Z r p o M0 M1 (f e) (B M1)) : CRl Z r p o M0 M (sq x f) (bd y fun r1 M1 => if r1 = 0 then A M1 else B M1) := sorry

theorem CR_A {r o : Nat} {M0 : gMem} : ∀ M1, CI r o M0 M1 → ∃ M2, (some ((0 : Int32), M1) : Option (Int32 × gMem)) = some ((0 : Int32), M2) ∧ CI r o M0 M2 ∧ mI M2 r 6 = mI M1 r 6 := sorry

theorem CR_tk {Z g ps vs : Nat → Nat} {K r p o : Nat} {M0 : gMem} (W : CWd Z g ps vs K r p o M0) {k a : Nat} {M : gMem} (C : CI r o M0 M) (h6 : mI M r 6 = nI k) (hk : k ≤ K) (ha : a < 42) : CRl Z r p o M0 M (tk1 g a k) (f_X6_take M r (some (Z a))) := sorry

theorem C_adS {Z g ps vs : Nat → Nat} {K r p o : Nat} {M0 : gMem} (W : CWd Z g ps vs K r p o M0) {β : Type} {c : Nat} {v : Int32} {M : gMem} (C : CI r o M0 M) {kk : gMem → Option β} (hc : c < 45) : (dr (mR M r 2) fun a8 => ck (mT M a8 = 7) <| dr (mR M a8 10) fun a11 => ck (mT M a11 = 8) <| bd (f_X9_add Z M a11 (some (Z c)) v) fun _ M10 => kk M10) = kk (adM Z o c v M) := sorry

theorem C_6 {Z g ps vs : Nat → Nat} {K r p o : Nat} {M0 : gMem} (W : CWd Z g ps vs K r p o M0) {M : gMem} (C : CI r o M0 M) : mT M r = 6 := sorry

theorem stp_op {Z : Nat → Nat} {r p o c i : Nat} {M : gMem} (hc : c = 20 ∨ c = 21 ∨ c = 22 ∨ (31 ≤ c ∧ c ≤ 39)) : stp1 Z r p o c i M = adM Z o c 0 M := sorry

theorem stp_vl {Z : Nat → Nat} {r p o c i : Nat} {M : gMem} (hc : c = 15 ∨ c = 44 ∨ c = 23 ∨ c = 24) : stp1 Z r p o c i M = adM Z o c (mI M r 8) M := sorry

/-- an operation is added -/
theorem CR_op {Z g ps vs : Nat → Nat} {K r p o : Nat} {M0 : gMem} (W : CWd Z g ps vs K r p o M0) {k c i : Nat} {M : gMem} (C : CI r o M0 M) (h6 : mI M r 6 = nI k) (hk : k ≤ K) (hc : c = 20 ∨ c = 21 ∨ c = 22 ∨ (31 ≤ c ∧ c ≤ 39)) : CRl Z r p o M0 M (em (c, i) k) (some ((1 : Int32), adM Z o c 0 M)) := sorry

theorem CR_vl {Z g ps vs : Nat → Nat} {K r p o : Nat} {M0 : gMem} (W : CWd Z g ps vs K r p o M0) {k c i : Nat} {M : gMem} (C : CI r o M0 M) (h6 : mI M r 6 = nI k) (hk : k ≤ K) (hc : c = 15 ∨ c = 44 ∨ c = 23 ∨ c = 24) : CRl Z r p o M0 M (em (c, i) k) (some ((1 : Int32), adM Z o c (mI M r 8) M)) := sorry

/-- a loop -/
theorem CR_lp {Z g ps vs : Nat → Nat} {K r p o : Nat} {M0 : gMem} (W : CWd Z g ps vs K r p o M0) {a b : Nat} {f : Nat → Option (Option (List (Nat × Nat)) × Nat)} {BB : gMem → Int32 → Option ((gMem × Int32) ⊕ (Int32 × gMem))} (ha : a = 21 ∨ a = 22 ∨ (31 ≤ a ∧ a ≤ 34)) (hb : b = 21 ∨ b = 22 ∨ (31 ≤ b ∧ b ≤ 34)) (hF : ∀ e, e ≤ K → FP g K e 1 0 1 1 (f e)) (h1 : ∀ M k c, CI r o M0 M → mI M r 6 = nI k → k ≤ K → c ≤ k → (g k = a ∨ g k = b) → c < 400 → match f (k + 1) with
    | none => True
    | some (none, e) => ∃ M1, BB M (nI c) = some (.inr ((0 : Int32), M1)) ∧ CI r o M0 M1 ∧ mI M1 r 6 = nI e
    | some (some es, e) => ∃ M1, BB M (nI c) = some (.inl (adM Z o (g k) 0 M1, nI (c + 1))) ∧ CI r o M0 M1 ∧ mI M1 r 6 = nI e ∧ sim r M1 (rnE Z r p o es M)) (h2 : ∀ M k c, CI r o M0 M → mI M r 6 = nI k → k ≤ K → ¬ (g k = a ∨ g k = b) → c ≤ 400 → BB M (nI c) = some (.inr ((1 : Int32), M))) : ∀ m k c M, CI r o M0 M → mI M r 6 = nI k → k ≤ K → c ≤ k → CRl Z r p o M0 M (lpS g a b f m k) (lp (fun q => BB q.1 q.2) (M, nI c)) := sorry
