/-! ## Pure: the reference cuts its tape -/
/-- the model's tape and rows at m -/
def MP (m n : Nat) (T : Nat → Nat) (M : gMem) (I : Nat → Nat → Int32) (R : Nat → Nat → Option Nat) : Prop :=
  (mT M m = 13 ∧ (∀ j, 1 ≤ j → j < 7 → mT M (m + j) = 20) ∧ mL M (m + 1) = 2000 ∧ ∀ j, 2 ≤ j → j < 7 → mL M (m + j) = 401) ∧
  (R m 1 = some (m + 1) ∧ R m 4 = some (m + 2) ∧ R m 5 = some (m + 3) ∧ R m 6 = some (m + 4) ∧ R m 7 = some (m + 5) ∧ R m 8 = some (m + 6)) ∧ I m 2 = nI n ∧ n ≤ 2000 ∧ ∀ q, q < n → I (m + 1) q = nI (T q) ∧ T q < 256
theorem MP_I {m n : Nat} {T : Nat → Nat} {M : gMem} {I I' : Nat → Nat → Int32} {R : Nat → Nat → Option Nat} (P : MP m n T M I R) (h0 : I' m 2 = I m 2) (h1 : ∀ q, q < n → I' (m + 1) q = I (m + 1) q) : MP m n T M I' R :=
  ⟨P.1, P.2.1, by rw [h0, P.2.2.1], P.2.2.2.1, fun q hq => by rw [h1 q hq]; exact P.2.2.2.2 q hq⟩
/-- the byte at a place as the reference has it, -1 behind the end -/
def tm (T : Nat → Nat) (n q : Nat) : Int32 := if q < n then nI (T q) else -1
theorem tm_1 : ∀ x, x < 256 → ((nI x < (97 : Int32) ∨ (122 : Int32) < nI x) ↔ isL x = false) ∧ ((nI x < (48 : Int32) ∨ (57 : Int32) < nI x) ↔ isD x = false) ∧ (nI x = (32 : Int32) ↔ x = 32) ∧ (nI x = (10 : Int32) ↔ x = 10) ∧ ¬ nI x = (-1 : Int32) := by decide +kernel
/-- whether the k-th word of the reference stands at a -/
def mw (T : Nat → Nat) (a l k : Nat) : Bool := decide (sLn (45 + k) = l) && alN (fun j => decide (sBy (45 + k) j = nI (T (a + j)))) l 0
theorem sw_3 : ∀ i, i < 71 → ∀ j, j < 14 → (sBy i j).toNatClampNeg < 128 ∧ sBy i j = nI ((sBy i j).toNatClampNeg) := by decide +kernel
theorem sB_neg : ∀ x, x < 256 → 128 ≤ x → sB x < 0 := by decide +kernel
theorem sB_c {x c : Nat} (hx : x < 256) (hc : c < 128) : sB x = nI c ↔ x = c := by
  by_cases h : x < 128
  · rw [sB_lo h]; exact nI_eq (by omega) (by omega)
  · have := sB_neg x hx (by omega)
    constructor
    · intro e; rw [e] at this; exact absurd this (nI_pos (by omega))
    · intro e; omega
theorem sw_2 (i : Nat) (hi : i < 71) (j : Nat) (hj : j < 14) (x : Nat) (hx : x < 256) : sB x = sBy i j ↔ sBy i j = nI x := by
  obtain ⟨h1, h2⟩ := sw_3 i hi j hj
  rw [h2, sB_c hx h1]
  constructor
  · intro e; rw [e]
  · intro e; exact ((nI_eq (by omega) (by omega)).mp e).symm
/-- the reference's kind of a sign -/
def mk (g : Nat) : Nat := if g ≤ 24 ∨ g = 40 ∨ g = 41 then g else if g = 38 then 300 else if g = 39 then 301 else if g = 42 then 900 else if g = 43 then 901 else 50 + (sBy g 0).toNatClampNeg
/-- signs of one byte -/
def sg1 (x : Nat) : Option Nat := fndN (fun i => decide (sLn i = 1) && decide (sB x = sBy i 0)) 45 0
theorem sg2_0 : ∀ i, i < 45 → sLn i = 2 → isL ((sBy i 0).toNatClampNeg) = true ∨ (i = 38 ∧ (sBy i 0).toNatClampNeg = 60) ∨ (i = 39 ∧ (sBy i 0).toNatClampNeg = 62) := by decide +kernel
theorem sg2_1 (x : Nat) (hx : x < 256) (hL : isL x = false) (i : Nat) (hi : i < 45) (h2 : sLn i = 2) (h : sB x = sBy i 0) : (i = 38 ∧ x = 60) ∨ (i = 39 ∧ x = 62) := by
  obtain ⟨h3, h4⟩ := sw_3 i (by omega) 0 (by omega)
  rw [h4, sB_c hx h3] at h
  rcases sg2_0 i hi h2 with e | e | e
  · rw [← h, hL] at e; cases e
  · exact .inl ⟨e.1, h.trans e.2⟩
  · exact .inr ⟨e.1, h.trans e.2⟩
theorem sg3_0 : ∀ i, i < 45 → 25 ≤ i → isL ((sBy i 0).toNatClampNeg) = false := by decide +kernel
theorem mt1_e {T : Nat → Nat} {n a : Nat} (h : a < n) : fndN (mt T n a 1) 45 0 = sg1 (T a) := by
  unfold sg1
  refine fndN_c 45 0 fun k _ _ => ?_
  unfold mt tb
  simp [alN, h]
theorem mt2_e {T : Nat → Nat} {n a : Nat} (h : a < n) (hx : T a < 256) (hL : isL (T a) = false) (h1 : a + 1 < n → T (a + 1) < 256) : fndN (mt T n a 2) 45 0 = if (T a = 60 ∨ T a = 62) ∧ a + 1 < n ∧ T (a + 1) = 61 then (if T a = 60 then some 38 else some 39) else none := by
  have hm : ∀ i, i < 45 → (mt T n a 2 i = true ↔ ((i = 38 ∧ T a = 60) ∨ (i = 39 ∧ T a = 62)) ∧ a + 1 < n ∧ T (a + 1) = 61) := by
    intro i hi
    unfold mt
    simp only [Bool.and_eq_true, decide_eq_true_eq, alN_t]
    constructor
    · rintro ⟨e1, e2⟩
      have q0 := e2 0 (by omega) (by omega)
      have q1 := e2 1 (by omega) (by omega)
      unfold tb at q0 q1
      rw [Nat.add_zero, if_pos h] at q0
      have hs := sg2_1 (T a) hx hL i hi e1 q0
      refine ⟨hs, ?_⟩
      have b1 : sBy i 1 = nI 61 := by rcases hs with ⟨rfl, -⟩ | ⟨rfl, -⟩ <;> rfl
      rw [b1] at q1
      by_cases c : a + 1 < n
      · rw [if_pos c] at q1
        exact ⟨c, ((by decide +kernel : ∀ x, x < 256 → sB x = nI 61 → x = 61) _ (h1 c) q1)⟩
      · rw [if_neg c] at q1
        exact absurd q1 (by decide)
    · rintro ⟨hs, c, e⟩
      have l2 : sLn i = 2 := by rcases hs with ⟨rfl, -⟩ | ⟨rfl, -⟩ <;> rfl
      refine ⟨l2, fun k _ hk => ?_⟩
      unfold tb
      have hk2 : k = 0 ∨ k = 1 := by omega
      rcases hk2 with rfl | rfl
      · rw [Nat.add_zero, if_pos h]
        rcases hs with ⟨rfl, e⟩ | ⟨rfl, e⟩ <;> rw [e] <;> rfl
      · rw [if_pos c, e]
        rcases hs with ⟨rfl, -⟩ | ⟨rfl, -⟩ <;> rfl
  by_cases c : (T a = 60 ∨ T a = 62) ∧ a + 1 < n ∧ T (a + 1) = 61
  · rw [if_pos c]
    cases hf : fndN (mt T n a 2) 45 0 with
    | none =>
      exfalso
      have := fndN_n 45 0 hf
      rcases c.1 with e | e
      · have h2 := this 38 (by omega) (by omega)
        rw [(hm 38 (by omega)).mpr ⟨.inl ⟨rfl, e⟩, c.2⟩] at h2
        cases h2
      · have h2 := this 39 (by omega) (by omega)
        rw [(hm 39 (by omega)).mpr ⟨.inr ⟨rfl, e⟩, c.2⟩] at h2
        cases h2
    | some i =>
      obtain ⟨-, i1, i2⟩ := fndN_s 45 0 i hf
      rcases ((hm i (by omega)).mp i2).1 with ⟨rfl, e⟩ | ⟨rfl, e⟩
      · rw [if_pos e]
      · rw [if_neg (by omega)]
  · rw [if_neg c]
    cases hf : fndN (mt T n a 2) 45 0 with
    | none => rfl
    | some i =>
      exfalso
      obtain ⟨-, i1, i2⟩ := fndN_s 45 0 i hf
      obtain ⟨h1, h2⟩ := (hm i (by omega)).mp i2
      exact c ⟨by omega, h2⟩
theorem stp_1 {P : Nat → Bool} {T : Nat → Nat} {n a : Nat} (h : a < n) (hP : P (T a) = true) : stp P T (n - a) a = stp P T (n - (a + 1)) (a + 1) := by
  rw [show n - a = (n - (a + 1)) + 1 by omega, stp, if_pos hP]
