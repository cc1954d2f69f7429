/-! ## Pure: the reference cuts its tape -/
/-- the model's tape and rows at m -/
def MP (m n : Nat) (T : Nat → Nat) (M : gMem) (I : Nat → Nat → Int32) (R : Nat → Nat → Option Nat) : Prop :=
  (mT M m = 13 ∧ (∀ j, 1 ≤ j → j < 7 → mT M (m + j) = 20) ∧ mL M (m + 1) = 2000 ∧ ∀ j, 2 ≤ j → j < 7 → mL M (m + j) = 401) ∧
  (R m 1 = some (m + 1) ∧ R m 4 = some (m + 2) ∧ R m 5 = some (m + 3) ∧ R m 6 = some (m + 4) ∧ R m 7 = some (m + 5) ∧ R m 8 = some (m + 6)) ∧ I m 2 = nI n ∧ n ≤ 2000 ∧ ∀ q, q < n → I (m + 1) q = nI (T q) ∧ T q < 256
theorem MP_I {m n : Nat} {T : Nat → Nat} {M : gMem} {I I' : Nat → Nat → Int32} {R : Nat → Nat → Option Nat} (P : MP m n T M I R) (h0 : I' m 2 = I m 2) (h1 : ∀ q, q < n → I' (m + 1) q = I (m + 1) q) : MP m n T M I' R :=
  ⟨P.1, P.2.1, by rw [h0, P.2.2.1], P.2.2.2.1, fun q hq => by rw [h1 q hq]; exact P.2.2.2.2 q hq⟩
/-- the byte at a place as the reference has it, -1 behind the end -/
def tm (T : Nat → Nat) (n q : Nat) : Int32 := if q < n then nI (T q) else -1
theorem m_byteOf {m n q : Nat} {T : Nat → Nat} {M : gMem} {I : Nat → Nat → Int32} {R : Nat → Nat → Option Nat} {J : Nat → Nat → Int64} (P : MP m n T M I R) (hq : q < 2 ^ 30) : f_X14_byteOf (gm M I R J) m (nI q) = some (tm T n q, gm M I R J) := by
  obtain ⟨⟨t0, t1, l1, -⟩, ⟨r1, -⟩, hn, h2, hT⟩ := P
  unfold f_X14_byteOf b_X14_byteOf_0 b_X14_byteOf_18 tm
  rw [gm_T, ck_t t0, gm_I, hn]
  by_cases c : q < n
  · have q2 : ¬ nI n ≤ nI q := fun z => by have := (nI_leI (by omega) (by omega)).mp z; omega
    have q3 : inb (nI q) 2000 := (inbN (by omega)).mpr (by omega)
    rw [if_neg q2, gm_R, dr_s r1, ck_t (t1 1 (by omega) (by omega)), gm_L, l1, ck_t q3, nI_clamp (by omega), (hT q c).1, if_pos c]
  · have q2 : nI n ≤ nI q := nI_le (by omega) (by omega)
    rw [if_pos q2, if_neg c]
theorem tm_1 : ∀ x, x < 256 → ((nI x < (97 : Int32) ∨ (122 : Int32) < nI x) ↔ isL x = false) ∧ ((nI x < (48 : Int32) ∨ (57 : Int32) < nI x) ↔ isD x = false) ∧ (nI x = (32 : Int32) ↔ x = 32) ∧ (nI x = (10 : Int32) ↔ x = 10) ∧ ¬ nI x = (-1 : Int32) := by decide +kernel
theorem m_isLetter {n q : Nat} {T : Nat → Nat} {M : gMem} (hT : q < n → T q < 256) : f_X14_isLetter M (tm T n q) = some (if q < n ∧ isL (T q) = true then 1 else 0, M) := by
  unfold f_X14_isLetter b_X14_isLetter_0 b_X14_isLetter_16 b_X14_isLetter_17 tm
  by_cases c : q < n
  · have e := (tm_1 (T q) (hT c)).1
    rw [if_pos c]
    by_cases c1 : nI (T q) < (97 : Int32)
    · have := e.mp (.inl c1)
      rw [if_pos c1, ck_t (.inl rfl), if_neg (by rw [this]; simp)]
    · rw [if_neg c1]
      by_cases c2 : (122 : Int32) < nI (T q)
      · have := e.mp (.inr c2)
        rw [if_pos c2, ck_t (.inl rfl), if_neg (by rw [this]; simp)]
      · have : isL (T q) = true := by
          cases h : isL (T q) with
          | true => rfl
          | false => exact absurd (e.mpr h) (fun z => z.elim c1 c2)
        rw [if_neg c2, ck_t (.inr rfl), if_pos ⟨c, this⟩]
  · rw [if_neg c, if_pos (by decide), ck_t (.inl rfl), if_neg (fun z => c z.1)]
theorem m_isDigit {n q : Nat} {T : Nat → Nat} {M : gMem} (hT : q < n → T q < 256) : f_X14_isDigit M (tm T n q) = some (if q < n ∧ isD (T q) = true then 1 else 0, M) := by
  unfold f_X14_isDigit b_X14_isDigit_0 b_X14_isDigit_16 b_X14_isDigit_17 tm
  by_cases c : q < n
  · have e := (tm_1 (T q) (hT c)).2.1
    rw [if_pos c]
    by_cases c1 : nI (T q) < (48 : Int32)
    · have := e.mp (.inl c1)
      rw [if_pos c1, ck_t (.inl rfl), if_neg (by rw [this]; simp)]
    · rw [if_neg c1]
      by_cases c2 : (57 : Int32) < nI (T q)
      · have := e.mp (.inr c2)
        rw [if_pos c2, ck_t (.inl rfl), if_neg (by rw [this]; simp)]
      · have : isD (T q) = true := by
          cases h : isD (T q) with
          | true => rfl
          | false => exact absurd (e.mpr h) (fun z => z.elim c1 c2)
        rw [if_neg c2, ck_t (.inr rfl), if_pos ⟨c, this⟩]
  · rw [if_neg c, if_pos (by decide), ck_t (.inl rfl), if_neg (fun z => c z.1)]
/-- whether the k-th word of the reference stands at a -/
def mw (T : Nat → Nat) (a l k : Nat) : Bool := decide (sLn (45 + k) = l) && alN (fun j => decide (sBy (45 + k) j = nI (T (a + j)))) l 0
theorem sw_1 : ∀ k, k < 25 → sLn k = sLn (45 + k) ∧ ∀ j, j < 14 → sBy k j = sBy (45 + k) j := by decide +kernel
theorem sw_3 : ∀ i, i < 71 → ∀ j, j < 14 → (sBy i j).toNatClampNeg < 128 ∧ sBy i j = nI ((sBy i j).toNatClampNeg) := by decide +kernel
theorem sB_neg : ∀ x, x < 256 → 128 ≤ x → sB x < 0 := by decide +kernel
theorem sB_c {x c : Nat} (hx : x < 256) (hc : c < 128) : sB x = nI c ↔ x = c := by
  by_cases h : x < 128
  · rw [sB_lo h]; exact nI_eq (by omega) (by omega)
  · have := sB_neg x hx (by omega)
    constructor
    · intro e; rw [e] at this; exact absurd this (nI_pos (by omega))
    · intro e; omega
theorem sw_2 (i : Nat) (hi : i < 71) (j : Nat) (hj : j < 14) (x : Nat) (hx : x < 256) : sB x = sBy i j ↔ sBy i j = nI x := by
  obtain ⟨h1, h2⟩ := sw_3 i hi j hj
  rw [h2, sB_c hx h1]
  constructor
  · intro e; rw [e]
  · intro e; exact ((nI_eq (by omega) (by omega)).mp e).symm
theorem mw_mt {T : Nat → Nat} {n a l k : Nat} (hk : k < 25) (hl : a + l ≤ n) (hT : ∀ q, q < n → T q < 256) : mt T n a l k = mw T a l k := by
  obtain ⟨e1, e2⟩ := sw_1 k hk
  unfold mt mw
  rw [e1]
  by_cases c : sLn (45 + k) = l
  · have h14 := js_2 (45 + k) (by omega)
    congr 1
    have e : ∀ i, i < l → decide (tb T n (a + i) = sBy k i) = decide (sBy (45 + k) i = nI (T (a + i))) := by
      intro i hi
      unfold tb
      rw [if_pos (by omega), ← e2 i (by omega), Bool.eq_iff_iff, decide_eq_true_eq, decide_eq_true_eq]
      exact sw_2 k (by omega) i (by omega) _ (hT _ (by omega))
    rw [Bool.eq_iff_iff, alN_t, alN_t]
    constructor
    · intro h i h1 h2
      rw [← e i (by omega)]; exact h i h1 h2
    · intro h i h1 h2
      rw [e i (by omega)]; exact h i h1 h2
  · simp [c]
theorem m_word {Z : Nat → Nat} {m n a l : Nat} {T : Nat → Nat} {M : gMem} {I : Nat → Nat → Int32} {R : Nat → Nat → Option Nat} {J : Nat → Nat → Int64} (P : MP m n T M I R) (hl : a + l ≤ n) : f_X14_word Z (gm M I R J) m (nI a) (nI l) = some (nI (match fndN (mw T a l) 25 0 with | some k => k | none => 40), gm M I R J) := by
  have hn2 : n ≤ 2000 := P.2.2.2.1
  have n10 : ¬ (1 : Int32) = 0 := by decide
  have t0 : mT (gm M I R J) m = 13 := P.1.1
  -- a word's letters
  have inner : ∀ k, k < 25 → sLn (45 + k) = l → lp_X14_word_32 Z (gm M I R J) m (nI a) (nI l) (nI k) 1 (nI 0) = b_X14_word_78 Z (gm M I R J) m (nI a) (nI l) (nI k) (if alN (fun j => decide (sBy (45 + k) j = nI (T (a + j)))) l 0 then 1 else 0) := by
    intro k hk hl2
    have h14 := js_2 (45 + k) (by omega)
    have ik : inb (nI k) 25 := (inbN (by omega)).mpr (by omega)
    have ec : (nI k).toNatClampNeg = k := nI_clamp (by omega)
    have key : ∀ d j, j + d = l → lp_X14_word_32 Z (gm M I R J) m (nI a) (nI l) (nI k) 1 (nI j) = b_X14_word_78 Z (gm M I R J) m (nI a) (nI l) (nI k) (if alN (fun j => decide (sBy (45 + k) j = nI (T (a + j)))) d j then 1 else 0) := by
      intro d
      induction d with
      | zero =>
        intro j hj
        have q : nI l ≤ nI j := nI_le (by omega) (by omega)
        unfold lp_X14_word_32
        refine lp_oI ?_
        show bb_X14_word_32 Z (gm M I R J) m (nI a) (nI l) (nI k) 1 (nI j) = _
        unfold bb_X14_word_32
        rw [if_neg n10, if_pos q]
        rfl
      | succ d ih =>
        intro j hj
        have q : ¬ nI l ≤ nI j := fun z => by have := (nI_leI (by omega) (by omega)).mp z; omega
        have iq : inb (nI (a + j)) 2000 := (inbN (by omega)).mpr (by omega)
        have hb : bb_X14_word_32 Z (gm M I R J) m (nI a) (nI l) (nI k) 1 (nI j) = some (.inl (gm M I R J, (if sBy (45 + k) j = nI (T (a + j)) then 1 else 0), nI (j + 1))) := by
          unfold bb_X14_word_32 b_X14_word_70
          rw [if_neg n10, if_neg q, ck_t ik, ec, ck_t (by omega), js_char (by omega) (by omega), bd_S, ck_t t0, gm_R, dr_s P.2.1.1, gm_T, ck_t (P.1.2.1 1 (by omega) (by omega)), gm_L, P.1.2.2.1, nI_add, ck_t iq, gm_I, nI_clamp (by omega), (P.2.2.2.2 (a + j) (by omega)).1, nI_1]
          by_cases c : sBy (45 + k) j = nI (T (a + j))
          · rw [if_pos c, if_pos c]
          · rw [if_neg c, if_neg c]
        rw [alN]
        by_cases c : sBy (45 + k) j = nI (T (a + j))
        · rw [if_pos c] at hb
          have hq : (fun j => decide (sBy (45 + k) j = nI (T (a + j)))) j = true := decide_eq_true c
          rw [if_pos hq, ← ih (j + 1) (by omega)]
          unfold lp_X14_word_32
          exact lp_in hb
        · rw [if_neg c] at hb
          have hq : ¬ (fun j => decide (sBy (45 + k) j = nI (T (a + j)))) j = true := fun z => c (of_decide_eq_true z)
          have e0 : (if (if (fun j => decide (sBy (45 + k) j = nI (T (a + j)))) j = true then alN (fun j => decide (sBy (45 + k) j = nI (T (a + j)))) d (j + 1) else false) = true then (1 : Int32) else 0) = 0 := by
            rw [if_neg hq]
            rfl
          rw [e0]
          unfold lp_X14_word_32
          rw [lp_in hb]
          refine lp_oI ?_
          show bb_X14_word_32 Z (gm M I R J) m (nI a) (nI l) (nI k) 0 (nI (j + 1)) = _
          unfold bb_X14_word_32
          rw [if_pos rfl]
    exact key l 0 (by omega)
  have step : ∀ k, k < 25 → bb_X14_word_2 Z (gm M I R J) m (nI a) (nI l) (nI k) = if mw T a l k then some (.inr (nI k, gm M I R J)) else some (.inl (gm M I R J, nI (k + 1))) := by
    intro k hk
    have q : ¬ Int32.ofNat 25 ≤ nI k := fun z => by have := (nI_leI (a := 25) (by omega) (by omega)).mp z; omega
    have ik : inb (nI k) 25 := (inbN (by omega)).mpr (by omega)
    have ec : (nI k).toNatClampNeg = k := nI_clamp (by omega)
    have h14 := js_2 (45 + k) (by omega)
    unfold bb_X14_word_2 b_X14_word_27 mw
    rw [if_neg q, ck_t ik, ec, ck_t (by omega), js_len (by omega), bd_S]
    by_cases c : sLn (45 + k) = l
    · have e : nI (sLn (45 + k)) = nI l := by rw [c]
      have hz : lp_X14_word_32 Z (gm M I R J) m (nI a) (nI l) (nI k) 1 0 = _ := inner k hk c
      rw [if_pos e, hz]
      unfold b_X14_word_78
      simp only [c, decide_true, Bool.true_and]
      by_cases c2 : alN (fun j => decide (sBy (45 + k) j = nI (T (a + j)))) l 0 = true
      · rw [if_pos c2, if_pos c2, if_neg n10]
        rfl
      · rw [if_neg c2, if_neg c2, if_pos rfl, nI_1]
    · have e : ¬ nI (sLn (45 + k)) = nI l := nI_ne c (by omega) (by omega)
      have h0 : lp_X14_word_32 Z (gm M I R J) m (nI a) (nI l) (nI k) 0 0 = some (.inl (gm M I R J, nI (k + 1))) := by
        unfold lp_X14_word_32
        refine lp_oI ?_
        show bb_X14_word_32 Z (gm M I R J) m (nI a) (nI l) (nI k) 0 0 = _
        unfold bb_X14_word_32 b_X14_word_78
        rw [if_pos rfl, if_pos rfl, nI_1]
      rw [if_neg e, h0]
      simp [c]
  unfold f_X14_word b_X14_word_0 lp_X14_word_2
  have := lp_find (f := fun (q : gMem × Int32) => bb_X14_word_2 Z q.1 m (nI a) (nI l) q.2) (fun j => (gm M I R J, nI j)) (mw T a l) (fun j => (nI j, gm M I R J)) (nI 40, gm M I R J) 25 0 (fun j _ hj => step j (by omega)) ?_
  · refine this.trans ?_
    cases fndN (mw T a l) 25 0 <;> rfl
  · have q : Int32.ofNat 25 ≤ nI (0 + 25) := nI_le (by omega) (by omega)
    show bb_X14_word_2 Z (gm M I R J) m (nI a) (nI l) (nI (0 + 25)) = _
    unfold bb_X14_word_2
    rw [if_pos q]
    rfl
/-- the reference's kind of a sign -/
def mk (g : Nat) : Nat := if g ≤ 24 ∨ g = 40 ∨ g = 41 then g else if g = 38 then 300 else if g = 39 then 301 else if g = 42 then 900 else if g = 43 then 901 else 50 + (sBy g 0).toNatClampNeg
/-- signs of one byte -/
def sg1 (x : Nat) : Option Nat := fndN (fun i => decide (sLn i = 1) && decide (sB x = sBy i 0)) 45 0
theorem sg1_1 : ∀ x, x < 256 → ((sg1 x = none) ↔ (x = 0 ∨ 128 ≤ x ∨ fndN (fun j => decide (sBy 70 j = nI x)) 13 0 = none)) ∧ (match sg1 x with | some i => decide (mk i = 50 + x) | none => true) = true := by decide +kernel
theorem sg2_0 : ∀ i, i < 45 → sLn i = 2 → isL ((sBy i 0).toNatClampNeg) = true ∨ (i = 38 ∧ (sBy i 0).toNatClampNeg = 60) ∨ (i = 39 ∧ (sBy i 0).toNatClampNeg = 62) := by decide +kernel
theorem sg2_1 (x : Nat) (hx : x < 256) (hL : isL x = false) (i : Nat) (hi : i < 45) (h2 : sLn i = 2) (h : sB x = sBy i 0) : (i = 38 ∧ x = 60) ∨ (i = 39 ∧ x = 62) := by
  obtain ⟨h3, h4⟩ := sw_3 i (by omega) 0 (by omega)
  rw [h4, sB_c hx h3] at h
  rcases sg2_0 i hi h2 with e | e | e
  · rw [← h, hL] at e; cases e
  · exact .inl ⟨e.1, h.trans e.2⟩
  · exact .inr ⟨e.1, h.trans e.2⟩
theorem sg3_0 : ∀ i, i < 45 → 25 ≤ i → isL ((sBy i 0).toNatClampNeg) = false := by decide +kernel
theorem mt1_e {T : Nat → Nat} {n a : Nat} (h : a < n) : fndN (mt T n a 1) 45 0 = sg1 (T a) := by
  unfold sg1
  refine fndN_c 45 0 fun k _ _ => ?_
  unfold mt tb
  simp [alN, h]
theorem mt2_e {T : Nat → Nat} {n a : Nat} (h : a < n) (hx : T a < 256) (hL : isL (T a) = false) (h1 : a + 1 < n → T (a + 1) < 256) : fndN (mt T n a 2) 45 0 = if (T a = 60 ∨ T a = 62) ∧ a + 1 < n ∧ T (a + 1) = 61 then (if T a = 60 then some 38 else some 39) else none := by
  have hm : ∀ i, i < 45 → (mt T n a 2 i = true ↔ ((i = 38 ∧ T a = 60) ∨ (i = 39 ∧ T a = 62)) ∧ a + 1 < n ∧ T (a + 1) = 61) := by
    intro i hi
    unfold mt
    simp only [Bool.and_eq_true, decide_eq_true_eq, alN_t]
    constructor
    · rintro ⟨e1, e2⟩
      have q0 := e2 0 (by omega) (by omega)
      have q1 := e2 1 (by omega) (by omega)
      unfold tb at q0 q1
      rw [Nat.add_zero, if_pos h] at q0
      have hs := sg2_1 (T a) hx hL i hi e1 q0
      refine ⟨hs, ?_⟩
      have b1 : sBy i 1 = nI 61 := by rcases hs with ⟨rfl, -⟩ | ⟨rfl, -⟩ <;> rfl
      rw [b1] at q1
      by_cases c : a + 1 < n
      · rw [if_pos c] at q1
        exact ⟨c, ((by decide +kernel : ∀ x, x < 256 → sB x = nI 61 → x = 61) _ (h1 c) q1)⟩
      · rw [if_neg c] at q1
        exact absurd q1 (by decide)
    · rintro ⟨hs, c, e⟩
      have l2 : sLn i = 2 := by rcases hs with ⟨rfl, -⟩ | ⟨rfl, -⟩ <;> rfl
      refine ⟨l2, fun k _ hk => ?_⟩
      unfold tb
      have hk2 : k = 0 ∨ k = 1 := by omega
      rcases hk2 with rfl | rfl
      · rw [Nat.add_zero, if_pos h]
        rcases hs with ⟨rfl, e⟩ | ⟨rfl, e⟩ <;> rw [e] <;> rfl
      · rw [if_pos c, e]
        rcases hs with ⟨rfl, -⟩ | ⟨rfl, -⟩ <;> rfl
  by_cases c : (T a = 60 ∨ T a = 62) ∧ a + 1 < n ∧ T (a + 1) = 61
  · rw [if_pos c]
    cases hf : fndN (mt T n a 2) 45 0 with
    | none =>
      exfalso
      have := fndN_n 45 0 hf
      rcases c.1 with e | e
      · have h2 := this 38 (by omega) (by omega)
        rw [(hm 38 (by omega)).mpr ⟨.inl ⟨rfl, e⟩, c.2⟩] at h2
        cases h2
      · have h2 := this 39 (by omega) (by omega)
        rw [(hm 39 (by omega)).mpr ⟨.inr ⟨rfl, e⟩, c.2⟩] at h2
        cases h2
    | some i =>
      obtain ⟨-, i1, i2⟩ := fndN_s 45 0 i hf
      rcases ((hm i (by omega)).mp i2).1 with ⟨rfl, e⟩ | ⟨rfl, e⟩
      · rw [if_pos e]
      · rw [if_neg (by omega)]
  · rw [if_neg c]
    cases hf : fndN (mt T n a 2) 45 0 with
    | none => rfl
    | some i =>
      exfalso
      obtain ⟨-, i1, i2⟩ := fndN_s 45 0 i hf
      obtain ⟨h1, h2⟩ := (hm i (by omega)).mp i2
      exact c ⟨by omega, h2⟩
theorem js_idx {Z : Nat → Nat} {M : gMem} {b : Nat} (h0 : 0 < b) (hb : b < 128) : ∃ r, f_J0_indexOf_0f7a4 Z M 70 (i2cV (nI b)) = some (r, M) ∧ (r < 0 ↔ fndN (fun j => decide (sBy 70 j = nI b)) 13 0 = none) := by
  have e1 : i2cV (nI b) = nI b := (by decide +kernel : ∀ b, b < 128 → i2cV (nI b) = nI b) b hb
  have e2 : i2bV (nI b) = nI b := (by decide +kernel : ∀ b, b < 128 → i2bV (nI b) = nI b) b hb
  have q0 : ¬ nI b < 0 := nI_pos (by omega)
  have q1 : ¬ (255 : Int32) < nI b := nI_nlt (a := 255) (by omega) (by omega)
  have n1 : ¬ (1 : Int32) = 0 := by decide
  have l13 : sLn 70 = 13 := by decide
  have loop : lp_J1_indexOfChar_4cfef_7 Z M 70 (nI 13) (nI b) (nI 0) = some (match fndN (fun j => decide (sBy 70 j = nI b)) 13 0 with | some j => (nI j, M) | none => (-1, M)) := by
    unfold lp_J1_indexOfChar_4cfef_7
    refine lp_find (f := fun (q : gMem × Int32) => bb_J1_indexOfChar_4cfef_7 Z q.1 70 (nI 13) (nI b) q.2) (fun j => (M, nI j)) (fun j => decide (sBy 70 j = nI b)) (fun j => (nI j, M)) (-1, M) 13 0 (fun j _ hj => ?_) ?_
    · have q : ¬ nI 13 ≤ nI j := fun z => by have := (nI_leI (by omega) (by omega)).mp z; omega
      have iq : inb (nI j) 13 := (inbN (by omega)).mpr (by omega)
      have ec : (nI j).toNatClampNeg = j := nI_clamp (by omega)
      show bb_J1_indexOfChar_4cfef_7 Z M 70 (nI 13) (nI b) (nI j) = _
      unfold bb_J1_indexOfChar_4cfef_7
      rw [if_neg q, ck_t (by omega), l13, ck_t iq, ec, nI_1]
      by_cases c : sBy 70 j = nI b
      · rw [if_pos c, if_pos (by simpa using c)]
        rfl
      · rw [if_neg c, if_neg (by simpa using c)]
    · have q : nI 13 ≤ nI (0 + 13) := nI_le (by omega) (by omega)
      show bb_J1_indexOfChar_4cfef_7 Z M 70 (nI 13) (nI b) (nI (0 + 13)) = _
      unfold bb_J1_indexOfChar_4cfef_7
      rw [if_pos q]
      rfl
  have hh : ∀ r, lp_J1_indexOfChar_4cfef_7 Z M 70 (nI 13) (nI b) (nI 0) = some (r, M) → f_J0_indexOf_0f7a4 Z M 70 (i2cV (nI b)) = some (r, M) := by
    intro r hr
    have m1 : imax (0 : Int32) 0 = nI 0 := by decide
    have m2 : imin (nI 13) (Int32.ofNat 13) = nI 13 := by decide
    have m3 : nI 0 < nI 13 := by decide
    unfold f_J0_indexOf_0f7a4 b_J0_indexOf_0f7a4_0 f_J0_indexOf_7cf53 b_J0_indexOf_7cf53_0 f_J0_isLatin1_aae02 b_J0_isLatin1_aae02_0 b_J0_isLatin1_aae02_18 f_J1_indexOf_4cfef b_J1_indexOf_4cfef_0 f_J1_canEncode_9a6ad b_J1_canEncode_9a6ad_0 b_J1_canEncode_9a6ad_16 f_J1_indexOfChar_4cfef b_J1_indexOfChar_4cfef_0
    rw [ck_t (by omega), ck_t (by omega), ck_t (by omega), ck_t (.inr rfl), bd_S, if_neg n1, js_len (by omega), bd_S, e1, if_neg q0, if_neg q1, ck_t (.inr rfl), bd_S, if_neg n1, ck_t (by omega), l13, m1, m2, if_pos m3, e2, hr, bd_S, bd_S, bd_S]
  cases h : fndN (fun j => decide (sBy 70 j = nI b)) 13 0 with
  | none =>
    rw [h] at loop
    exact ⟨-1, hh _ loop, by simp⟩
  | some j =>
    rw [h] at loop
    obtain ⟨-, j1, -⟩ := fndN_s 13 0 j h
    refine ⟨nI j, hh _ loop, fun z => absurd z (nI_pos (by omega)), fun z => by cases z⟩
theorem stp_1 {P : Nat → Bool} {T : Nat → Nat} {n a : Nat} (h : a < n) (hP : P (T a) = true) : stp P T (n - a) a = stp P T (n - (a + 1)) (a + 1) := by
  rw [show n - a = (n - (a + 1)) + 1 by omega, stp, if_pos hP]
/-- the kind of the token at a, written down for index i -/
theorem m_kindAt {Z : Nat → Nat} {m n a i : Nat} {T : Nat → Nat} {M : gMem} {I : Nat → Nat → Int32} {R : Nat → Nat → Option Nat} {J : Nat → Nat → Int64} (P : MP m n T M I R) (ha : a ≤ n) (hi : i < 401) : ∃ v, f_X14_kindAt Z (gm M I R J) m (nI a) (nI i) = some (nI (mk (tkG T n a)), gm M (if a < n then up2 I (m + 4) i (nI v) else I) R J) ∧ (a < n → tkG T n a < 42 → v = tkE T n a - a) := by
  have hn2 : n ≤ 2000 := P.2.2.2.1
  have hT : ∀ q, q < n → T q < 256 := fun q hq => (P.2.2.2.2 q hq).2
  have t0 : ∀ I', mT (gm M I' R J) m = 13 := fun _ => P.1.1
  have n10 : ¬ (1 : Int32) = 0 := by decide
  have i1 : inb (nI i) 401 := (inbN (by omega)).mpr hi
  have wm : ∀ v, wI (gm M I R J) (m + 4) (nI i).toNatClampNeg v = gm M (up2 I (m + 4) i v) R J := fun v => by rw [nI_clamp (by omega)]; rfl
  have P' : ∀ v, MP m n T M (up2 I (m + 4) i v) R := fun v => MP_I P (up2_ne (by omega)) (fun q _ => up2_ne (by omega))
  by_cases c : a < n
  · have hx := hT a c
    have ex : tm T n a = nI (T a) := if_pos c
    have nm1 : ¬ nI (T a) = (-1 : Int32) := (tm_1 (T a) hx).2.2.2.2
    have lA := m_isLetter (M := gm M I R J) (T := T) (n := n) (q := a) (fun _ => hx)
    have dA := m_isDigit (M := gm M I R J) (T := T) (n := n) (q := a) (fun _ => hx)
    rw [ex] at lA dA
    suffices h : ∃ v, f_X14_kindAt Z (gm M I R J) m (nI a) (nI i) = some (nI (mk (tkG T n a)), gm M (up2 I (m + 4) i (nI v)) R J) ∧ (a < n → tkG T n a < 42 → v = tkE T n a - a) by
      obtain ⟨v, h1, h2⟩ := h
      exact ⟨v, by rw [if_pos c]; exact h1, h2⟩
    -- the loop of words and numbers
    have loop : ∀ (Q : Nat → Bool), (∀ q, q < n → Q (T q) = (isD (T q) || (isL (T a) && isL (T q)))) → Q (T a) = true → lp_X14_kindAt_34 Z (gm M I R J) m (nI a) (nI i) (nI (T a)) (nI (a + 1)) = b_X14_kindAt_71 Z (gm M I R J) m (nI a) (nI i) (nI (T a)) (nI (stp Q T (n - a) a)) := by
      intro Q hQ hQa
      rw [stp_1 c hQa]
      obtain ⟨h1, h2, h3, h4⟩ := stp_p (P := Q) (T := T) (n - (a + 1)) (a + 1)
      have hle : stp Q T (n - (a + 1)) (a + 1) ≤ n := by omega
      generalize stp Q T (n - (a + 1)) (a + 1) = e at h1 h2 h3 h4 hle
      obtain ⟨⟨M1, k1⟩, q1, e1⟩ := lp_ex (f := fun (q : gMem × Int32) => bb_X14_kindAt_34 Z q.1 m (nI a) (nI i) (nI (T a)) q.2) (fun j q => q = (gm M I R J, nI j) ∧ a + 1 ≤ j) e (fun j q hj ⟨hq, hj1⟩ => by
        subst hq
        refine ⟨(gm M I R J, nI (j + 1)), ?_, rfl, by omega⟩
        have hb := h3 j hj1 hj
        rw [hQ j (by omega)] at hb
        show bb_X14_kindAt_34 Z (gm M I R J) m (nI a) (nI i) (nI (T a)) (nI j) = _
        unfold bb_X14_kindAt_34 b_X14_kindAt_65
        rw [ck_t (t0 I), m_byteOf P (by omega), bd_S, m_isDigit (fun h => hT _ h), bd_S]
        by_cases cD : isD (T j) = true
        · rw [if_pos (show j < n ∧ isD (T j) = true from ⟨by omega, cD⟩), if_neg n10, nI_1]
        · have cL : isL (T a) = true ∧ isL (T j) = true := by simpa [cD] using hb
          rw [if_neg (show ¬ (j < n ∧ isD (T j) = true) from fun z => cD z.2), if_pos rfl, lA, bd_S, if_pos (show a < n ∧ isL (T a) = true from ⟨c, cL.1⟩), if_neg n10, ck_t (t0 I), m_byteOf P (by omega), bd_S, m_isLetter (fun h => hT _ h), bd_S, if_pos (show j < n ∧ isL (T j) = true from ⟨by omega, cL.2⟩), if_neg n10, nI_1]) (e - (a + 1)) (a + 1) (gm M I R J, nI (a + 1)) (by omega) ⟨rfl, Nat.le_refl _⟩
      obtain ⟨q1, -⟩ := q1
      cases q1
      refine e1.trans (lp_oI ?_)
      show bb_X14_kindAt_34 Z (gm M I R J) m (nI a) (nI i) (nI (T a)) (nI e) = _
      unfold bb_X14_kindAt_34
      rw [ck_t (t0 I), m_byteOf P (by omega), bd_S, m_isDigit (fun h => hT _ h), bd_S]
      have hb : e < n → isD (T e) = false ∧ (isL (T a) = true → isL (T e) = false) := by
        intro he
        rcases h4 with h | h
        · omega
        · rw [hQ e he] at h
          simp only [Bool.or_eq_false_iff, Bool.and_eq_false_iff] at h
          refine ⟨h.1, fun z => ?_⟩
          rcases h.2 with w | w
          · rw [z] at w; cases w
          · exact w
      have d0 : ¬ (e < n ∧ isD (T e) = true) := fun z => by rw [(hb z.1).1] at z; exact absurd z.2 (by decide)
      rw [if_neg d0, if_pos rfl, lA, bd_S]
      by_cases cL : isL (T a) = true
      · have l0 : ¬ (e < n ∧ isL (T e) = true) := fun z => by rw [(hb z.1).2 cL] at z; exact absurd z.2 (by decide)
        rw [if_pos (show a < n ∧ isL (T a) = true from ⟨c, cL⟩), if_neg n10, ck_t (t0 I), m_byteOf P (by omega), bd_S, m_isLetter (fun h => hT _ h), bd_S, if_neg l0, if_pos rfl]
      · rw [if_neg (show ¬ (a < n ∧ isL (T a) = true) from fun z => cL z.2), if_pos rfl]
    have head : ∀ b, (if isL (T a) = true ∨ isD (T a) = true then lp_X14_kindAt_34 Z (gm M I R J) m (nI a) (nI i) (nI (T a)) (nI (a + 1)) else if nI (T a) = (60 : Int32) then b_X14_kindAt_140 Z (gm M I R J) m (nI i) (nI (T a)) (nI (a + 1)) else if nI (T a) = (62 : Int32) then b_X14_kindAt_140 Z (gm M I R J) m (nI i) (nI (T a)) (nI (a + 1)) else b_X14_kindAt_155 Z (gm M I R J) m (nI i) (nI (T a))) = b → f_X14_kindAt Z (gm M I R J) m (nI a) (nI i) = b := by
      intro b hb
      rw [← hb]
      unfold f_X14_kindAt b_X14_kindAt_0
      rw [ck_t (t0 I), m_byteOf P (by omega), bd_S, ex, if_neg nm1, lA, bd_S, nI_1]
      by_cases cL : isL (T a) = true
      · rw [if_pos (show a < n ∧ isL (T a) = true from ⟨c, cL⟩), if_neg n10, if_pos (.inl cL)]
      · rw [if_neg (show ¬ (a < n ∧ isL (T a) = true) from fun z => cL z.2), if_pos rfl, dA, bd_S]
        by_cases cD : isD (T a) = true
        · rw [if_pos (show a < n ∧ isD (T a) = true from ⟨c, cD⟩), if_neg n10, if_pos (.inr cD)]
        · rw [if_neg (show ¬ (a < n ∧ isD (T a) = true) from fun z => cD z.2), if_pos rfl, if_neg (show ¬ (isL (T a) = true ∨ isD (T a) = true) from fun z => z.elim cL cD)]
    by_cases cL : isL (T a) = true
    · -- a word
      have hA : isA (T a) = true := by unfold isA; rw [cL]; rfl
      have hl := loop isA (fun q _ => by unfold isA; rw [cL, Bool.true_and, Bool.or_comm]) hA
      obtain ⟨h1, h2, -, -⟩ := stp_p (P := isA) (T := T) (n - a) a
      have eW : stp isA T (n - a) a = wEnd T n a := rfl
      rw [eW] at hl h1 h2
      have e6 : nI (wEnd T n a) - nI a = nI (wEnd T n a - a) := nI_sub h1
      refine ⟨wEnd T n a - a, head _ ?_, fun _ _ => by unfold tkE; rw [if_pos c, if_pos cL]⟩
      rw [if_pos (.inl cL), hl]
      unfold b_X14_kindAt_71 b_X14_kindAt_99 b_X14_kindAt_127
      have lA' := m_isLetter (M := gm M (up2 I (m + 4) i (nI (wEnd T n a - a))) R J) (T := T) (n := n) (q := a) (fun _ => hx)
      rw [ex] at lA'
      rw [ck_t (t0 I), gm_R, dr_s P.2.1.2.2.2.1, gm_T, ck_t (P.1.2.1 4 (by omega) (by omega)), gm_L, P.1.2.2.2 4 (by omega) (by omega), ck_t i1, e6, wm]
      simp only [lw_S]
      rw [lA', bd_S, if_pos (show a < n ∧ isL (T a) = true from ⟨c, cL⟩), if_neg n10]
      unfold tkG wdG
      rw [if_pos c, if_pos cL]
      by_cases c10 : wEnd T n a - a ≤ 10
      · have q : nI (wEnd T n a - a) ≤ (10 : Int32) := nI_le (b := 10) c10 (by omega)
        rw [if_pos q, lA', bd_S, if_pos (show a < n ∧ isL (T a) = true from ⟨c, cL⟩), if_neg n10, ck_t (t0 _), m_word (P' _) (by omega), bd_S, if_pos c10]
        have hopt : fndN (mt T n a (wEnd T n a - a)) 45 0 = fndN (mw T a (wEnd T n a - a)) 25 0 := by
          have eq : fndN (mw T a (wEnd T n a - a)) 25 0 = fndN (mt T n a (wEnd T n a - a)) 25 0 := fndN_c 25 0 fun k _ hk => (mw_mt (by omega) (by omega) hT).symm
          rw [eq]
          have hsplit : ∀ (q : Nat → Bool), (∀ i, 25 ≤ i → i < 45 → q i = false) → fndN q 45 0 = fndN q 25 0 := by
            intro q hq
            cases h2 : fndN q 25 0 with
            | some k =>
              obtain ⟨-, k1, k2⟩ := fndN_s 25 0 k h2
              cases h3 : fndN q 45 0 with
              | none => have := fndN_n 45 0 h3 k (by omega) (by omega); rw [k2] at this; cases this
              | some k' =>
                obtain ⟨-, k3, k4⟩ := fndN_s 45 0 k' h3
                -- both are the first
                have first : ∀ d i k, fndN q d i = some k → ∀ j, i ≤ j → j < k → q j = false := by
                  intro d
                  induction d with
                  | zero => intro i k h; cases h
                  | succ d ih =>
                    intro i k h j j1 j2
                    rw [fndN] at h
                    by_cases e : q i = true
                    · rw [if_pos e] at h; cases h; omega
                    · rw [if_neg e] at h
                      by_cases ej : j = i
                      · subst ej; simpa using e
                      · exact ih (i + 1) k h j (by omega) j2
                rcases Nat.lt_trichotomy k k' with l | l | l
                · have := first 45 0 k' h3 k (by omega) l; rw [k2] at this; cases this
                · rw [l]
                · have := first 25 0 k h2 k' (by omega) l; rw [k4] at this; cases this
            | none =>
              cases h3 : fndN q 45 0 with
              | none => rfl
              | some k' =>
                obtain ⟨-, k3, k4⟩ := fndN_s 45 0 k' h3
                rcases Nat.lt_or_ge k' 25 with l | l
                · have := fndN_n 25 0 h2 k' (by omega) (by omega); rw [k4] at this; cases this
                · rw [hq k' l (by omega)] at k4; cases k4
          have hw1 : 1 ≤ wEnd T n a - a := by
            have : wEnd T n a = stp isA T (n - (a + 1)) (a + 1) := stp_1 c hA
            have h5 := (stp_p (P := isA) (T := T) (n - (a + 1)) (a + 1)).1
            omega
          refine hsplit _ ?_
          intro i i1 i2
          cases hmt : mt T n a (wEnd T n a - a) i with
          | false => rfl
          | true =>
            exfalso
            have hl2 := mt_len hmt
            unfold mt at hmt
            simp only [Bool.and_eq_true, decide_eq_true_eq] at hmt
            have q0 := (alN_t _ 0).mp hmt.2 0 (by omega) (by omega)
            simp only [decide_eq_true_eq] at q0
            unfold tb at q0
            rw [Nat.add_zero, if_pos c] at q0
            obtain ⟨h3, h4⟩ := sw_3 i (by omega) 0 (by omega)
            rw [h4, sB_c hx h3] at q0
            rw [q0, sg3_0 i i2 i1] at cL
            cases cL
        rw [hopt]
        cases h2 : fndN (mw T a (wEnd T n a - a)) 25 0 with
        | some k =>
          obtain ⟨-, k1, -⟩ := fndN_s 25 0 k h2
          have ek : mk k = k := by unfold mk; rw [if_pos (by omega)]
          show some (nI k, _) = some (nI (mk k), _)
          rw [ek]
        | none => rfl
      · have q : ¬ nI (wEnd T n a - a) ≤ (10 : Int32) := fun z => by have := (nI_leI (b := 10) (by omega) (by omega)).mp z; omega
        rw [if_neg q, if_neg c10]
        rfl
    · by_cases cD : isD (T a) = true
      · -- a number
        have cLf : isL (T a) = false := by simpa using cL
        have hl := loop isD (fun q _ => by rw [cLf, Bool.false_and, Bool.or_false]) cD
        obtain ⟨h1, h2, -, -⟩ := stp_p (P := isD) (T := T) (n - a) a
        have eW : stp isD T (n - a) a = nEnd T n a := rfl
        rw [eW] at hl h1 h2
        have e6 : nI (nEnd T n a) - nI a = nI (nEnd T n a - a) := nI_sub h1
        refine ⟨nEnd T n a - a, head _ ?_, fun _ _ => by unfold tkE; rw [if_pos c, if_neg cL, if_pos cD]⟩
        rw [if_pos (.inr cD), hl]
        unfold b_X14_kindAt_71 b_X14_kindAt_99 b_X14_kindAt_127
        have lA' := m_isLetter (M := gm M (up2 I (m + 4) i (nI (nEnd T n a - a))) R J) (T := T) (n := n) (q := a) (fun _ => hx)
        rw [ex] at lA'
        rw [ck_t (t0 I), gm_R, dr_s P.2.1.2.2.2.1, gm_T, ck_t (P.1.2.1 4 (by omega) (by omega)), gm_L, P.1.2.2.2 4 (by omega) (by omega), ck_t i1, e6, wm]
        simp only [lw_S]
        rw [lA', bd_S, if_neg (show ¬ (a < n ∧ isL (T a) = true) from fun z => cL z.2), if_pos rfl]
        unfold tkG nmG
        rw [if_pos c, if_neg cL, if_pos cD]
        by_cases c6 : nEnd T n a - a ≤ 6
        · have q : nI (nEnd T n a - a) ≤ (6 : Int32) := nI_le (b := 6) c6 (by omega)
          rw [if_pos q, lA', bd_S, if_neg (show ¬ (a < n ∧ isL (T a) = true) from fun z => cL z.2), if_pos rfl, if_pos c6]
          rfl
        · have q : ¬ nI (nEnd T n a - a) ≤ (6 : Int32) := fun z => by have := (nI_leI (b := 6) (by omega) (by omega)).mp z; omega
          rw [if_neg q, if_neg c6]
          rfl
      · -- a symbol
        have cLf : isL (T a) = false := by simpa using cL
        have e60 : nI (T a) = (60 : Int32) ↔ T a = 60 := nI_eq (b := 60) (by omega) (by omega)
        have e62 : nI (T a) = (62 : Int32) ↔ T a = 62 := nI_eq (b := 62) (by omega) (by omega)
        have h2 := mt2_e c hx cLf (fun h => hT _ h)
        have h1 := mt1_e (T := T) c
        have eG : tkG T n a = (symG T n a).1 := by unfold tkG; rw [if_pos c, if_neg cL, if_neg cD]
        have eE : tkE T n a = a + (symG T n a).2 := by unfold tkE; rw [if_pos c, if_neg cL, if_neg cD]
        have w156 : ∀ (x v : Int32), b_X14_kindAt_156 Z (gm M I R J) m (nI i) (nI (T a)) x = b_X14_kindAt_173 Z (gm M I R J) (nI (T a)) x (some (m + 4)) (nI i) (if x = 0 then 1 else 2) := by
          intro x v
          unfold b_X14_kindAt_156
          rw [ck_t (t0 I), gm_R, P.2.1.2.2.2.1]
          by_cases c0 : x = 0
          · rw [if_pos c0, if_pos c0]
          · rw [if_neg c0, if_neg c0]
        have w173 : ∀ (x v : Int32), b_X14_kindAt_173 Z (gm M I R J) (nI (T a)) x (some (m + 4)) (nI i) v = (if x = 0 then (if nI (T a) ≤ 0 then b_X14_kindAt_223 Z (gm M (up2 I (m + 4) i v) R J) else (if (128 : Int32) ≤ nI (T a) then b_X14_kindAt_223 Z (gm M (up2 I (m + 4) i v) R J) else bd (f_J0_indexOf_0f7a4 Z (gm M (up2 I (m + 4) i v) R J) 70 ((i2cV (nI (T a))))) fun r6 M6 => (if r6 < 0 then b_X14_kindAt_223 Z M6 else b_X14_kindAt_226 Z M6 (((50 : Int32) + nI (T a)))))) else (if nI (T a) = (60 : Int32) then b_X14_kindAt_194 Z (gm M (up2 I (m + 4) i v) R J) ((300 : Int32)) else b_X14_kindAt_194 Z (gm M (up2 I (m + 4) i v) R J) ((301 : Int32)))) := by
          intro x v
          unfold b_X14_kindAt_173
          rw [dr_S, gm_T, ck_t (P.1.2.1 4 (by omega) (by omega)), gm_L, P.1.2.2.2 4 (by omega) (by omega), ck_t i1, wm]
          simp only [lw_S]
        by_cases cl : (T a = 60 ∨ T a = 62) ∧ a + 1 < n ∧ T (a + 1) = 61
        · -- two bytes
          rw [if_pos cl] at h2
          have hs : symG T n a = (if T a = 60 then 38 else 39, 2) := by
            unfold symG
            rw [h2]
            by_cases c60 : T a = 60
            · rw [if_pos c60, if_pos c60]
            · rw [if_neg c60, if_neg c60]
          have b140 : b_X14_kindAt_140 Z (gm M I R J) m (nI i) (nI (T a)) (nI (a + 1)) = some (nI (if T a = 60 then 300 else 301), gm M (up2 I (m + 4) i 2) R J) := by
            have e61 : tm T n (a + 1) = (61 : Int32) := by unfold tm; rw [if_pos cl.2.1, cl.2.2]; rfl
            unfold b_X14_kindAt_140
            rw [ck_t (t0 I), m_byteOf P (by omega), bd_S, if_pos e61, w156 1 2, if_neg n10, w173, if_neg n10]
            unfold b_X14_kindAt_194
            by_cases c60 : T a = 60
            · rw [if_pos (e60.mpr c60), if_pos c60]
              rfl
            · rw [if_neg (fun z => c60 (e60.mp z)), if_neg c60]
              rfl
          refine ⟨2, head _ ?_, fun _ _ => by rw [eE, hs]; show 2 = a + 2 - a; omega⟩
          rw [if_neg (fun z => z.elim cL cD), eG, hs]
          rcases cl.1 with c60 | c62
          · rw [if_pos (e60.mpr c60), b140, if_pos c60, if_pos c60]
            rfl
          · rw [if_neg (fun z => by have := e60.mp z; omega), if_pos (e62.mpr c62), b140, if_neg (by omega), if_neg (by omega)]
            rfl
        · -- one byte
          rw [if_neg cl] at h2
          have hs : symG T n a = match sg1 (T a) with | some i => (i, 1) | none => (43, 0) := by
            unfold symG
            rw [h2, h1]
            cases sg1 (T a) <;> rfl
          obtain ⟨f1, f2⟩ := sg1_1 (T a) hx
          have one : b_X14_kindAt_155 Z (gm M I R J) m (nI i) (nI (T a)) = some (nI (mk (symG T n a).1), gm M (up2 I (m + 4) i 1) R J) := by
            unfold b_X14_kindAt_155
            rw [w156 0 1, if_pos rfl, w173, if_pos rfl]
            unfold b_X14_kindAt_223 b_X14_kindAt_226
            rw [hs]
            by_cases c0 : T a = 0
            · have : sg1 (T a) = none := f1.mpr (.inl c0)
              rw [this, if_pos (by rw [c0]; decide)]
              rfl
            · have q0 : ¬ nI (T a) ≤ 0 := nI_nle (by omega) (by omega)
              rw [if_neg q0]
              by_cases c128 : 128 ≤ T a
              · have : sg1 (T a) = none := f1.mpr (.inr (.inl c128))
                rw [this, if_pos (show (128 : Int32) ≤ nI (T a) from nI_le (a := 128) c128 (by omega))]
                rfl
              · have q1 : ¬ (128 : Int32) ≤ nI (T a) := fun z => by have := (nI_leI (a := 128) (by omega) (by omega)).mp z; omega
                obtain ⟨r, g1, g2⟩ := js_idx (Z := Z) (M := gm M (up2 I (m + 4) i 1) R J) (b := T a) (by omega) (by omega)
                rw [if_neg q1, g1, bd_S]
                cases hq : sg1 (T a) with
                | none =>
                  have : r < 0 := g2.mpr ((f1.mp hq).resolve_left c0 |>.resolve_left c128)
                  rw [if_pos this]
                  rfl
                | some k =>
                  have : ¬ r < 0 := fun z => by
                    have := f1.mpr (.inr (.inr (g2.mp z)))
                    rw [hq] at this
                    cases this
                  rw [hq] at f2
                  have f2 : mk k = 50 + T a := of_decide_eq_true f2
                  rw [if_neg this, f2]
                  show some ((50 : Int32) + nI (T a), _) = _
                  rw [show (50 : Int32) + nI (T a) = nI (50 + T a) from nI_add 50 _]
          refine ⟨1, head _ ?_, fun _ hlt => ?_⟩
          · rw [if_neg (fun z => z.elim cL cD), eG]
            have b140 : T a = 60 ∨ T a = 62 → b_X14_kindAt_140 Z (gm M I R J) m (nI i) (nI (T a)) (nI (a + 1)) = b_X14_kindAt_155 Z (gm M I R J) m (nI i) (nI (T a)) := by
              intro h6
              have n61 : ¬ tm T n (a + 1) = (61 : Int32) := by
                intro z
                unfold tm at z
                by_cases cn : a + 1 < n
                · rw [if_pos cn] at z
                  exact cl ⟨h6, cn, (nI_eq (b := 61) (by have := hT _ cn; omega) (by omega)).mp z⟩
                · rw [if_neg cn] at z
                  exact absurd z (by decide)
              unfold b_X14_kindAt_140
              rw [ck_t (t0 I), m_byteOf P (by omega), bd_S, if_neg n61]
            by_cases c60 : T a = 60
            · rw [if_pos (e60.mpr c60), b140 (.inl c60), one]
              rfl
            · rw [if_neg (fun z => c60 (e60.mp z))]
              by_cases c62 : T a = 62
              · rw [if_pos (e62.mpr c62), b140 (.inr c62), one]
                rfl
              · rw [if_neg (fun z => c62 (e62.mp z)), one]
                rfl
          · rw [eE, hs]
            rw [eG, hs] at hlt
            cases hq : sg1 (T a) with
            | none => rw [hq] at hlt; exact absurd hlt (by decide)
            | some k => show 1 = a + 1 - a; omega
  · -- the end
    have ex : tm T n a = -1 := if_neg c
    have eG : tkG T n a = 42 := by unfold tkG; rw [if_neg c]
    refine ⟨0, ?_, fun z => absurd z c⟩
    unfold f_X14_kindAt b_X14_kindAt_0
    rw [ck_t (t0 I), m_byteOf P (by omega), bd_S, ex, if_pos rfl, eG, if_neg c]
    rfl
