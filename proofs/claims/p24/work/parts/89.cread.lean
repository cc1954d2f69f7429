/-! ## Pure: the class reads a text -/
theorem gSw_2 : ∀ c, c < 45 → (gSw c = 1 ↔ c = 0) ∧ (gSw c = 2 ↔ c = 3) ∧ (gSw c = 3 ↔ c = 7) ∧ (gSw c = 4 ↔ c = 10) := sorry

def CTx (Z : Nat → Nat) (r p o : Nat) (M0 M : gMem) (x : Option (Option (List (Nat × Nat)) × Nat)) (y : Option (Int32 × gMem)) : Prop :=
  match x with
  | none => True
  | some (none, e) => ∃ M1, y = b_X6_read_132 Z M1 r 0 ∧ CI r o M0 M1 ∧ mI M1 r 6 = nI e
  | some (some es, e) => ∃ M1, y = b_X6_read_132 Z M1 r 1 ∧ CI r o M0 M1 ∧ mI M1 r 6 = nI e ∧ sim r M1 (rnE Z r p o es M)
theorem C_out {Z : Nat → Nat} {r c : Nat} {M : gMem} (hc : c < 400) : lp_X6_read_11 Z M r 0 (nI c) = b_X6_read_132 Z M r 0 := sorry

theorem C_txL {Z g ps vs : Nat → Nat} {K r p o : Nat} {M0 : gMem} (W : CWd Z g ps vs K r p o M0) : ∀ m c k M, CI r o M0 M → mI M r 6 = nI k → k ≤ K → 2 * c ≤ k → CTx Z r p o M0 M (txL g m k) (lp_X6_read_11 Z M r 1 (nI c)) := sorry

/-- the built shore is forgotten -/
def fgM (o : Nat) (M : gMem) : gMem := wI (wI (wI (wI (wI M o 2 0) o 3 0) o 4 0) o 5 0) (o + 5) 0 0
theorem c_forget {o : Nat} {M : gMem} (L : LC o M) : f_X7_forget M o = some ((), fgM o M) := sorry

/-- the whole reading: a text that is none; a text, with what its events left -/
theorem C_read {Z g ps vs : Nat → Nat} {K r p o : Nat} {M0 : gMem} (W : CWd Z g ps vs K r p o M0) {M : gMem} (B : CB r p o M) (CF : CI r o M0 (fgM o M)) (h6 : mI M r 6 = nI 0) : match txL g 401 0 with
    | none => True
    | some (none, e) => ∃ M1, f_X6_read Z M r = some ((1 : Int32), wI (wI M1 r 7 1) r 0 (nI (ps e))) ∧ CI r o M0 M1 ∧ e ≤ K
    | some (some es, e) => ∃ M1, f_X6_read Z M r = some (mI M1 r 7, M1) ∧ CI r o M0 M1 ∧ sim r M1 (rnE Z r p o es (fgM o M)) := sorry
