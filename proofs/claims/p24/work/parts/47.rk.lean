/-- the same ints but for the stack of the sums -/
def eqS (sg sg' : Nat → Nat → Int32) : Prop := ∀ d : Nat, d ≠ 8 → sg' d = sg d
/-- the same ints but for those that are of use for a moment alone -/
def eqZ (sg sg' : Nat → Nat → Int32) : Prop := ∀ d : Nat, (d < 8 ∨ 11 < d) → sg' d = sg d
theorem eqS_Z {sg sg' : Nat → Nat → Int32} (h : eqS sg sg') : eqZ sg sg' := fun d hd => h d (by omega)
theorem eqS_r (sg : Nat → Nat → Int32) : eqS sg sg := fun _ _ => rfl
theorem eqS_t {a b c : Nat → Nat → Int32} (h : eqS a b) (k : eqS b c) : eqS a c := fun d hd => (k d hd).trans (h d hd)
theorem eqS_s {a b : Nat → Nat → Int32} (h : eqS a b) : eqS b a := fun d hd => (h d hd).symm
theorem valN_congr {sg sg' : Nat → Nat → Int32} (h : eqZ sg sg') (g : Nat) (v : Int32) : valN sg' g v = valN sg g v := by
  unfold valN
  rw [h 0 (by omega), h (34 + 2 * v.toNatClampNeg) (by omega), h (19 + 2 * v.toNatClampNeg) (by omega), h (18 + 2 * v.toNatClampNeg) (by omega)]
theorem rk1_congr {pg : Nat → Nat} {i t : Nat} {s s' : Nat → Nat → Int32} (h : eqZ s s') (h2 : ∀ k, k < t → s' 8 k = s 8 k) : (rk1 pg i (s', t)).2 = (rk1 pg i (s, t)).2 ∧ ∀ k, k < (rk1 pg i (s, t)).2 → (rk1 pg i (s', t)).1 8 k = (rk1 pg i (s, t)).1 8 k := by
  unfold rk1
  by_cases c1 : isPush (pg i)
  · simp only [if_pos c1]
    refine ⟨trivial, fun k hk => ?_⟩
    by_cases e : k = t
    · subst e
      rw [up2_eq, up2_eq, valN_congr h, h 7 (by omega)]
    · rw [up2_ne (.inr e), up2_ne (.inr e), h2 k (by omega)]
  · simp only [if_neg c1]
    by_cases c2 : isUn (pg i)
    · simp only [if_pos c2]
      by_cases c3 : t < 1
      · simp only [if_pos c3]
        exact ⟨trivial, h2⟩
      · simp only [if_neg c3]
        refine ⟨trivial, fun k hk => ?_⟩
        by_cases e : k = t - 1
        · subst e
          rw [up2_eq, up2_eq, h2 (t - 1) (by omega)]
        · rw [up2_ne (.inr e), up2_ne (.inr e), h2 k hk]
    · simp only [if_neg c2]
      by_cases c3 : t < 2
      · simp only [if_pos c3]
        exact ⟨trivial, h2⟩
      · simp only [if_neg c3]
        refine ⟨trivial, fun k hk => ?_⟩
        by_cases e : k = t - 2
        · subst e
          rw [up2_eq, up2_eq, h2 (t - 2) (by omega), h2 (t - 1) (by omega)]
        · rw [up2_ne (.inr e), up2_ne (.inr e), h2 k (by omega)]
theorem rkN_congr {pg : Nat → Nat} {st : Nat} {sg sg' : Nat → Nat → Int32} (h : eqZ sg sg') : ∀ j, (rkN pg st sg' j).2 = (rkN pg st sg j).2 ∧ ∀ k, k < (rkN pg st sg j).2 → (rkN pg st sg' j).1 8 k = (rkN pg st sg j).1 8 k
  | 0 => ⟨rfl, fun k hk => absurd hk (Nat.not_lt_zero k)⟩
  | j + 1 => by
    obtain ⟨h1, h2⟩ := rkN_congr (pg := pg) (st := st) h j
    have e1 : eqZ (rkN pg st sg j).1 (rkN pg st sg' j).1 := fun d hd => by rw [rkN_o (show d ≠ 8 by omega), rkN_o (show d ≠ 8 by omega), h d hd]
    have key := rk1_congr (pg := pg) (i := st + j) (t := (rkN pg st sg j).2) e1 h2
    have e2 : ((rkN pg st sg' j).1, (rkN pg st sg j).2) = rkN pg st sg' j := by rw [← h1]
    rw [e2] at key
    exact key
theorem rkV_congr {pg : Nat → Nat} {st n : Nat} {sg sg' : Nat → Nat → Int32} (h : eqZ sg sg') : rkV pg st sg' n = rkV pg st sg n := by
  obtain ⟨h1, h2⟩ := rkN_congr (pg := pg) (st := st) h n
  unfold rkV
  rw [h1]
  by_cases c : (rkN pg st sg n).2 = 0
  · rw [if_pos c, if_pos c]
  · rw [if_neg c, if_neg c, h2 0 (by omega)]
/-- a sum from st to en of len signs: what it comes to; the memory is the same but for the stack -/
noncomputable def rk (pg : Nat → Nat) (sg : Nat → Nat → Int32) (st en len : Nat) : Int32 := rkV pg st sg (min en len - st)
/-- the signs of the sums in the Shore at o -/
def PG (Z pg : Nat → Nat) (o len : Nat) (M : gMem) (sg : Nat → Nat → Int32) : Prop := (∀ a b : Nat, a < 45 → b < 45 → Z a = Z b → a = b) ∧ (∀ i, i < len → pg i < 45 ∧ mR M (o + 6) i = some (Z (pg i)) ∧ valOK (pg i) (sg 7 i)) ∧ sg 5 0 = nI len ∧ len ≤ 400
theorem PG_congr {Z pg : Nat → Nat} {o len : Nat} {M : gMem} {sg sg' : Nat → Nat → Int32} (P : PG Z pg o len M sg) (h : sg' 7 = sg 7) (h5 : sg' 5 = sg 5) : PG Z pg o len M sg' := ⟨P.1, fun i hi => by rw [h]; exact P.2.1 i hi, by rw [h5]; exact P.2.2.1, P.2.2.2⟩
theorem s_rk {Z pg : Nat → Nat} {M : gMem} {o len st en : Nat} {sg : Nat → Nat → Int32} (L : LC o M) (P : PG Z pg o len M sg) (hst : st < 2 ^ 30) (hen : en < 2 ^ 31) : ∃ sg', eqS sg sg' ∧ f_X9_reckon Z (sC o sg M) (o + 5) (nI st) (nI en) (some o) = some (rk pg sg st en len, sC o sg' M) :=
  ⟨_, fun d hd => rkN_o (show d ≠ 8 by omega) _, s9_reckon L P.1 P.2.1 P.2.2.1 P.2.2.2 hst hen⟩
theorem rk_congr {pg : Nat → Nat} {st en len : Nat} {sg sg' : Nat → Nat → Int32} (h : eqZ sg sg') : rk pg sg' st en len = rk pg sg st en len := rkV_congr h

