/-! ## Pure: the tape is scanned -/
/-- the memory with these ints, references and longs -/
def gm (M : gMem) (I : Nat → Nat → Int32) (R : Nat → Nat → Option Nat) (J : Nat → Nat → Int64) : gMem := (mT M, mL M, I, R, J, mN M)
theorem gm_T (M : gMem) (I : Nat → Nat → Int32) (R : Nat → Nat → Option Nat) (J : Nat → Nat → Int64) : mT (gm M I R J) = mT M := rfl
theorem gm_L (M : gMem) (I : Nat → Nat → Int32) (R : Nat → Nat → Option Nat) (J : Nat → Nat → Int64) : mL (gm M I R J) = mL M := rfl
theorem gm_I (M : gMem) (I : Nat → Nat → Int32) (R : Nat → Nat → Option Nat) (J : Nat → Nat → Int64) : mI (gm M I R J) = I := rfl
theorem gm_R (M : gMem) (I : Nat → Nat → Int32) (R : Nat → Nat → Option Nat) (J : Nat → Nat → Int64) : mR (gm M I R J) = R := rfl
theorem gm_J (M : gMem) (I : Nat → Nat → Int32) (R : Nat → Nat → Option Nat) (J : Nat → Nat → Int64) : mJ (gm M I R J) = J := rfl
theorem gm_N (M : gMem) (I : Nat → Nat → Int32) (R : Nat → Nat → Option Nat) (J : Nat → Nat → Int64) : mN (gm M I R J) = mN M := rfl
theorem gm_wI (M : gMem) (I : Nat → Nat → Int32) (R : Nat → Nat → Option Nat) (J : Nat → Nat → Int64) (a k : Nat) (v : Int32) : wI (gm M I R J) a k v = gm M (up2 I a k v) R J := rfl
theorem gm_wR (M : gMem) (I : Nat → Nat → Int32) (R : Nat → Nat → Option Nat) (J : Nat → Nat → Int64) (a k : Nat) (v : Option Nat) : wR (gm M I R J) a k v = gm M I (up2 R a k v) J := rfl
theorem gm_wJ (M : gMem) (I : Nat → Nat → Int32) (R : Nat → Nat → Option Nat) (J : Nat → Nat → Int64) (a k : Nat) (v : Int64) : wJ (gm M I R J) a k v = gm M I R (up2 J a k v) := rfl
theorem gm_self (M : gMem) : gm M (mI M) (mR M) (mJ M) = M := rfl
/-- letters, digits, blanks; a byte as the class has it -/
def isL (x : Nat) : Bool := decide (97 ≤ x) && decide (x ≤ 122)
def isD (x : Nat) : Bool := decide (48 ≤ x) && decide (x ≤ 57)
def isA (x : Nat) : Bool := isL x || isD x
def isB (x : Nat) : Bool := decide (x = 32) || decide (x = 10)
def sB (x : Nat) : Int32 := if x < 128 then nI x else nI x - nI 256
theorem sB_1 : ∀ x, x < 256 → ((sB x < (97 : Int32) ∨ (122 : Int32) < sB x) ↔ isL x = false) ∧ ((sB x < (48 : Int32) ∨ (57 : Int32) < sB x) ↔ isD x = false) := by decide +kernel
theorem sB_2 : ∀ x, x < 256 → (sB x = (32 : Int32) ↔ x = 32) ∧ (sB x = (10 : Int32) ↔ x = 10) := by decide +kernel
theorem sB_lo {x : Nat} (h : x < 128) : sB x = nI x := if_pos h
/-- the first place from q on, of d, where P doesn't hold -/
def stp (P : Nat → Bool) (T : Nat → Nat) : Nat → Nat → Nat
  | 0, q => q
  | d + 1, q => if P (T q) then stp P T d (q + 1) else q
theorem stp_p {P : Nat → Bool} {T : Nat → Nat} : ∀ d q, q ≤ stp P T d q ∧ stp P T d q ≤ q + d ∧ (∀ j, q ≤ j → j < stp P T d q → P (T j) = true) ∧ (stp P T d q = q + d ∨ P (T (stp P T d q)) = false)
  | 0, q => ⟨Nat.le_refl _, Nat.le_refl _, fun j h1 h2 => absurd h2 (Nat.not_lt.mpr h1), .inl rfl⟩
  | d + 1, q => by
    rw [stp]
    by_cases c : P (T q) = true
    · obtain ⟨h1, h2, h3, h4⟩ := stp_p (P := P) (T := T) d (q + 1)
      rw [if_pos c]
      refine ⟨by omega, by omega, fun j j1 j2 => ?_, ?_⟩
      · by_cases e : j = q
        · subst e; exact c
        · exact h3 j (by omega) j2
      · rcases h4 with h | h
        · exact .inl (by omega)
        · exact .inr h
    · rw [if_neg c]
      exact ⟨Nat.le_refl _, by omega, fun j j1 j2 => absurd j2 (Nat.not_lt.mpr j1), .inr (by simpa using c)⟩
/-- the first place of d from i on where q holds; whether q holds at all -/
def fndN (q : Nat → Bool) : Nat → Nat → Option Nat
  | 0, _ => none
  | d + 1, i => if q i then some i else fndN q d (i + 1)
def alN (q : Nat → Bool) : Nat → Nat → Bool
  | 0, _ => true
  | d + 1, i => if q i then alN q d (i + 1) else false
theorem fndN_s {q : Nat → Bool} : ∀ d i k, fndN q d i = some k → i ≤ k ∧ k < i + d ∧ q k = true
  | 0, _, _, h => by cases h
  | d + 1, i, k, h => by
    rw [fndN] at h
    by_cases c : q i = true
    · rw [if_pos c] at h
      cases h
      exact ⟨Nat.le_refl _, by omega, c⟩
    · rw [if_neg c] at h
      obtain ⟨h1, h2, h3⟩ := fndN_s d (i + 1) k h
      exact ⟨by omega, by omega, h3⟩
theorem fndN_n {q : Nat → Bool} : ∀ d i, fndN q d i = none → ∀ k, i ≤ k → k < i + d → q k = false
  | 0, _, _, k, h1, h2 => by omega
  | d + 1, i, h, k, h1, h2 => by
    rw [fndN] at h
    by_cases c : q i = true
    · rw [if_pos c] at h; cases h
    · rw [if_neg c] at h
      by_cases e : k = i
      · subst e; simpa using c
      · exact fndN_n d (i + 1) h k (by omega) (by omega)
theorem fndN_c {q r : Nat → Bool} : ∀ d i, (∀ k, i ≤ k → k < i + d → q k = r k) → fndN q d i = fndN r d i
  | 0, _, _ => rfl
  | d + 1, i, h => by
    rw [fndN, fndN, h i (Nat.le_refl _) (by omega), fndN_c d (i + 1) (fun k h1 h2 => h k (by omega) (by omega))]
theorem alN_t {q : Nat → Bool} : ∀ d i, alN q d i = true ↔ ∀ k, i ≤ k → k < i + d → q k = true
  | 0, i => ⟨fun _ k h1 h2 => by omega, fun _ => rfl⟩
  | d + 1, i => by
    rw [alN]
    by_cases c : q i = true
    · rw [if_pos c, alN_t d (i + 1)]
      constructor
      · intro h k h1 h2
        by_cases e : k = i
        · subst e; exact c
        · exact h k (by omega) (by omega)
      · intro h k h1 h2
        exact h k (by omega) (by omega)
    · rw [if_neg c]
      constructor
      · intro h; cases h
      · intro h; exact absurd (h i (Nat.le_refl _) (by omega)) c
theorem lp_find {α β : Type} {f : α → Option (α ⊕ β)} (s : Nat → α) (q : Nat → Bool) (b : Nat → β) (bN : β) : ∀ d i, (∀ j, i ≤ j → j < i + d → f (s j) = if q j then some (.inr (b j)) else some (.inl (s (j + 1)))) → f (s (i + d)) = some (.inr bN) → lp f (s i) = some (match fndN q d i with | some j => b j | none => bN)
  | 0, i, _, h2 => lp_out h2
  | d + 1, i, h1, h2 => by
    rw [fndN]
    by_cases c : q i = true
    · have := h1 i (Nat.le_refl _) (by omega)
      rw [if_pos c] at this
      rw [if_pos c]
      exact lp_out this
    · have := h1 i (Nat.le_refl _) (by omega)
      rw [if_neg c] at this
      rw [if_neg c, lp_in this]
      exact lp_find s q b bN d (i + 1) (fun j j1 j2 => h1 j (by omega) (by omega)) (by rw [show i + 1 + d = i + (d + 1) by omega]; exact h2)
/-! the JDK's strings -/
theorem js_0 : ∀ i, i < 94 → Int32.ofNat (sLn i) >>> ((0 : Int32) &&& 31) = nI (sLn i) := by decide +kernel
theorem js_1 : ∀ i, i < 94 → ∀ j, j < 24 → j < sLn i → i2cV (sBy i j &&& (255 : Int32)) = sBy i j ∧ i2cV (sBy i j) = sBy i j := by decide +kernel
theorem js_2 : ∀ i, i < 94 → sLn i < 24 := by decide +kernel
theorem js_len {Z : Nat → Nat} {M : gMem} {i : Nat} (h : i < 94) : f_J0_length_8abf5 Z M i = some (nI (sLn i), M) := by
  unfold f_J0_length_8abf5 b_J0_length_8abf5_0 f_J0_coder_7d493 b_J0_coder_7d493_0 b_J0_coder_7d493_14
  rw [ck_t h, ck_t h, ck_t (by decide), bd_S, js_0 i h]
theorem js_char {Z : Nat → Nat} {M : gMem} {i j : Nat} (h : i < 94) (hj : j < sLn i) : f_J0_charAt_5068e Z M i (nI j) = some (sBy i j, M) := by
  have h14 := js_2 i h
  obtain ⟨e1, e2⟩ := js_1 i h j (by omega) hj
  have q1 : ¬ nI j < 0 := nI_pos (by omega)
  have q2 : nI j < Int32.ofNat (sLn i) := nI_lt hj (by omega)
  have q3 : inb (nI j) (sLn i) := (inbN (by omega)).mpr hj
  have n1 : ¬ (1 : Int32) = 0 := by decide
  unfold f_J0_charAt_5068e b_J0_charAt_5068e_0 f_J0_isLatin1_aae02 b_J0_isLatin1_aae02_0 b_J0_isLatin1_aae02_18 f_J1_charAt_3b067 b_J1_charAt_3b067_0 f_J0_checkIndex_df160 b_J0_checkIndex_df160_0 f_J3_checkIndex_8e157 b_J3_checkIndex_8e157_0
  rw [ck_t h, ck_t h, ck_t (.inr rfl), bd_S, if_neg n1, ck_t h, if_neg q1, if_pos q2, bd_S, bd_S, ck_t q3, nI_clamp (by omega), e1, ck_t e2, bd_S, ck_t e2]
/-! the class's tape at p -/
def TP (p n : Nat) (T : Nat → Nat) (M : gMem) (I : Nat → Nat → Int32) (R : Nat → Nat → Option Nat) : Prop :=
  (mT M p = 9 ∧ mT M (p + 1) = 22 ∧ mL M (p + 1) = 2000 ∧ mT M (p + 2) = 27 ∧ mL M (p + 2) = 401 ∧ mT M (p + 3) = 20 ∧ mL M (p + 3) = 401 ∧ mT M (p + 4) = 21 ∧ mL M (p + 4) = 401) ∧
  (R p 1 = some (p + 1) ∧ R p 2 = some (p + 2) ∧ R p 3 = some (p + 3) ∧ R p 4 = some (p + 4)) ∧ I p 0 = nI n ∧ n ≤ 2000 ∧ ∀ q, q < n → I (p + 1) q = sB (T q) ∧ T q < 256
theorem TP_I {p n : Nat} {T : Nat → Nat} {M : gMem} {I I' : Nat → Nat → Int32} {R : Nat → Nat → Option Nat} (P : TP p n T M I R) (h0 : I' p 0 = I p 0) (h1 : ∀ q, q < n → I' (p + 1) q = I (p + 1) q) : TP p n T M I' R :=
  ⟨P.1, P.2.1, by rw [h0, P.2.2.1], P.2.2.2.1, fun q hq => by rw [h1 q hq]; exact P.2.2.2.2 q hq⟩
theorem TP_R {p n : Nat} {T : Nat → Nat} {M : gMem} {I : Nat → Nat → Int32} {R R' : Nat → Nat → Option Nat} (P : TP p n T M I R) (h : R' p = R p) : TP p n T M I R' :=
  ⟨P.1, by rw [h]; exact P.2.1, P.2.2⟩
theorem TP_5 {p n : Nat} {T : Nat → Nat} {M : gMem} {I : Nat → Nat → Int32} {R : Nat → Nat → Option Nat} {v : Int32} (P : TP p n T M I R) : TP p n T M (up2 I p 5 v) R := TP_I P (up2_ne (by omega)) fun q _ => up2_ne (by omega)
/-- the byte at a place, 0 behind the end -/
def tb (T : Nat → Nat) (n q : Nat) : Int32 := if q < n then sB (T q) else 0
theorem c_at {p n q : Nat} {T : Nat → Nat} {M : gMem} {I : Nat → Nat → Int32} {R : Nat → Nat → Option Nat} {J : Nat → Nat → Int64} (P : TP p n T M I R) (hq : q < 2 ^ 30) : f_X10_at (gm M I R J) p (nI q) = some (tb T n q, gm M I R J) := by
  obtain ⟨⟨t0, t1, l1, -⟩, ⟨r1, -⟩, hn, h2, hT⟩ := P
  have q1 : ¬ nI q < 0 := nI_pos (by omega)
  unfold f_X10_at b_X10_at_0 b_X10_at_21 b_X10_at_22 tb
  rw [if_neg q1, gm_T, ck_t t0, gm_I, hn]
  by_cases c : q < n
  · have q2 : ¬ nI n ≤ nI q := fun z => by have := (nI_leI (by omega) (by omega)).mp z; omega
    have q3 : inb (nI q) 2000 := (inbN (by omega)).mpr (by omega)
    rw [if_neg q2, gm_R, dr_s r1, ck_t t1, gm_L, l1, ck_t q3, nI_clamp (by omega), (hT q c).1, if_pos c]
  · have q2 : nI n ≤ nI q := nI_le (by omega) (by omega)
    rw [if_pos q2, if_neg c]
theorem c_isLetter {p n q : Nat} {T : Nat → Nat} {M : gMem} {I : Nat → Nat → Int32} {R : Nat → Nat → Option Nat} {J : Nat → Nat → Int64} (P : TP p n T M I R) (hq : q < 2 ^ 30) : f_X10_isLetter (gm M I R J) p (nI q) = some (if q < n ∧ isL (T q) = true then 1 else 0, gm M I R J) := by
  have t0 : mT (gm M I R J) p = 9 := P.1.1
  unfold f_X10_isLetter b_X10_isLetter_0 b_X10_isLetter_24 b_X10_isLetter_25
  rw [ck_t t0, c_at P hq, bd_S, ck_t t0, c_at P hq, bd_S]
  unfold tb
  by_cases c : q < n
  · have hT := (P.2.2.2.2 q c).2
    have e := (sB_1 (T q) hT).1
    rw [if_pos c]
    by_cases c1 : sB (T q) < (97 : Int32)
    · have := e.mp (.inl c1)
      rw [if_pos c1, ck_t (.inl rfl), if_neg (by rw [this]; simp)]
    · rw [if_neg c1]
      by_cases c2 : (122 : Int32) < sB (T q)
      · have := e.mp (.inr c2)
        rw [if_pos c2, ck_t (.inl rfl), if_neg (by rw [this]; simp)]
      · have : isL (T q) = true := by
          cases h : isL (T q) with
          | true => rfl
          | false => exact absurd (e.mpr h) (fun z => z.elim c1 c2)
        rw [if_neg c2, ck_t (.inr rfl), if_pos ⟨c, this⟩]
  · rw [if_neg c, if_pos (by decide), ck_t (.inl rfl), if_neg (fun z => c z.1)]
theorem c_isDigit {p n q : Nat} {T : Nat → Nat} {M : gMem} {I : Nat → Nat → Int32} {R : Nat → Nat → Option Nat} {J : Nat → Nat → Int64} (P : TP p n T M I R) (hq : q < 2 ^ 30) : f_X10_isDigit (gm M I R J) p (nI q) = some (if q < n ∧ isD (T q) = true then 1 else 0, gm M I R J) := by
  have t0 : mT (gm M I R J) p = 9 := P.1.1
  unfold f_X10_isDigit b_X10_isDigit_0 b_X10_isDigit_24 b_X10_isDigit_25
  rw [ck_t t0, c_at P hq, bd_S, ck_t t0, c_at P hq, bd_S]
  unfold tb
  by_cases c : q < n
  · have hT := (P.2.2.2.2 q c).2
    have e := (sB_1 (T q) hT).2
    rw [if_pos c]
    by_cases c1 : sB (T q) < (48 : Int32)
    · have := e.mp (.inl c1)
      rw [if_pos c1, ck_t (.inl rfl), if_neg (by rw [this]; simp)]
    · rw [if_neg c1]
      by_cases c2 : (57 : Int32) < sB (T q)
      · have := e.mp (.inr c2)
        rw [if_pos c2, ck_t (.inl rfl), if_neg (by rw [this]; simp)]
      · have : isD (T q) = true := by
          cases h : isD (T q) with
          | true => rfl
          | false => exact absurd (e.mpr h) (fun z => z.elim c1 c2)
        rw [if_neg c2, ck_t (.inr rfl), if_pos ⟨c, this⟩]
  · rw [if_neg c, if_pos (by decide), ck_t (.inl rfl), if_neg (fun z => c z.1)]
/-- behind the blanks from a on -/
def skp (T : Nat → Nat) (n a : Nat) : Nat := stp isB T (n - a) a
theorem c_skip {p n a : Nat} {T : Nat → Nat} {M : gMem} {I : Nat → Nat → Int32} {R : Nat → Nat → Option Nat} {J : Nat → Nat → Int64} (P : TP p n T M I R) (ha : a ≤ n) (h5 : I p 5 = nI a) : f_X10_skipBlanks (gm M I R J) p = some ((), gm M (up2 I p 5 (nI (skp T n a))) R J) := by
  obtain ⟨h1, h2, h3, h4⟩ := stp_p (P := isB) (T := T) (n - a) a
  have hn2 : n ≤ 2000 := P.2.2.2.1
  have key := lp_seq (f := fun q : gMem => bb_X10_skipBlanks_0 q p) (fun j => gm M (up2 I p 5 (nI j)) R J) a (skp T n a) (b := ((), gm M (up2 I p 5 (nI (skp T n a))) R J)) h1 (fun j j1 j2 => ?_) ?_
  · have e : up2 I p 5 (nI a) = I := by rw [← h5]; exact up2_self I p 5
    rw [e] at key
    exact key
  · have hj : j < n := by unfold skp at j2; omega
    have P' : TP p n T M (up2 I p 5 (nI j)) R := TP_5 P
    have t0 : mT (gm M (up2 I p 5 (nI j)) R J) p = 9 := P.1.1
    have e5 : up2 I p 5 (nI j) p 5 = nI j := up2_eq _ _ _ _
    have q1 : ¬ nI n ≤ nI j := fun z => by have := (nI_leI (by omega) (by omega)).mp z; omega
    have hb := h3 j j1 j2
    have hT := (P.2.2.2.2 j hj).2
    show bb_X10_skipBlanks_0 (gm M (up2 I p 5 (nI j)) R J) p = _
    unfold bb_X10_skipBlanks_0 b_X10_skipBlanks_37
    rw [ck_t t0, gm_I, P'.2.2.1, e5, if_neg q1, c_at P' (by omega), bd_S]
    unfold tb
    rw [if_pos hj]
    have w : wI (gm M (up2 I p 5 (nI j)) R J) p 5 (mI (gm M (up2 I p 5 (nI j)) R J) p 5 + 1) = gm M (up2 I p 5 (nI (j + 1))) R J := by
      rw [gm_I, e5, nI_1, gm_wI, up2_up2s]
    by_cases c : T j = 32
    · rw [if_pos ((sB_2 (T j) hT).1.mpr c), ck_t t0, w]
      rfl
    · have c10 : T j = 10 := by
        unfold isB at hb
        simpa [c] using hb
      rw [if_neg (fun z => c ((sB_2 (T j) hT).1.mp z)), ck_t t0, gm_I, e5, c_at P' (by omega), bd_S]
      unfold tb
      rw [if_pos hj, if_pos ((sB_2 (T j) hT).2.mpr c10), ck_t t0, w]
      rfl
  · have P' : TP p n T M (up2 I p 5 (nI (skp T n a))) R := TP_5 P
    have t0 : mT (gm M (up2 I p 5 (nI (skp T n a))) R J) p = 9 := P.1.1
    have e5 : up2 I p 5 (nI (skp T n a)) p 5 = nI (skp T n a) := up2_eq _ _ _ _
    show bb_X10_skipBlanks_0 (gm M (up2 I p 5 (nI (skp T n a))) R J) p = _
    unfold bb_X10_skipBlanks_0 b_X10_skipBlanks_50
    rw [ck_t t0, gm_I, P'.2.2.1, e5]
    have hle : skp T n a ≤ n := by unfold skp; omega
    by_cases c : skp T n a = n
    · have q1 : nI n ≤ nI (skp T n a) := nI_le (by omega) (by omega)
      rw [if_pos q1]
      rfl
    · have q1 : ¬ nI n ≤ nI (skp T n a) := fun z => by have := (nI_leI (by omega) (by omega)).mp z; omega
      have hj : skp T n a < n := by omega
      have hb : isB (T (skp T n a)) = false := by
        rcases h4 with h | h
        · exact absurd (show skp T n a = n by unfold skp; omega) c
        · exact h
      have hT := (P.2.2.2.2 _ hj).2
      unfold isB at hb
      simp only [Bool.or_eq_false_iff, decide_eq_false_iff_not] at hb
      rw [if_neg q1, c_at P' (by omega), bd_S]
      unfold tb
      rw [if_pos hj, if_neg (fun z => hb.1 ((sB_2 _ hT).1.mp z)), ck_t t0, gm_I, e5, c_at P' (by omega), bd_S]
      unfold tb
      rw [if_pos hj, if_neg (fun z => hb.2 ((sB_2 _ hT).2.mp z))]
      rfl
/-- whether the text of a sign stands at a, l bytes -/
def mt (T : Nat → Nat) (n a l i : Nat) : Bool := decide (sLn i = l) && alN (fun j => decide (tb T n (a + j) = sBy i j)) l 0
theorem lp_all {α β : Type} {f : α → Option (α ⊕ β)} (s : Nat → α) (q : Nat → Bool) (b c : β) : ∀ d i, (∀ j, i ≤ j → j < i + d → f (s j) = if q j then some (.inl (s (j + 1))) else some (.inr c)) → f (s (i + d)) = some (.inr b) → lp f (s i) = some (if alN q d i then b else c)
  | 0, i, _, h2 => lp_out h2
  | d + 1, i, h1, h2 => by
    rw [alN]
    by_cases e : q i = true
    · have := h1 i (Nat.le_refl _) (by omega)
      rw [if_pos e] at this
      rw [if_pos e, lp_in this]
      exact lp_all s q b c d (i + 1) (fun j j1 j2 => h1 j (by omega) (by omega)) (by rw [show i + 1 + d = i + (d + 1) by omega]; exact h2)
    · have := h1 i (Nat.le_refl _) (by omega)
      rw [if_neg e] at this
      rw [if_neg e]
      exact lp_out this
theorem c_reads {Z : Nat → Nat} {p n a l i : Nat} {T : Nat → Nat} {M : gMem} {I : Nat → Nat → Int32} {R : Nat → Nat → Option Nat} {J : Nat → Nat → Int64} (P : TP p n T M I R) (ha : a < 2 ^ 20) (hl : l < 2 ^ 20) (hi : i < 94) : f_X10_reads Z (gm M I R J) p i (nI a) (nI l) = some (if mt T n a l i then 1 else 0, gm M I R J) := by
  have h14 := js_2 i hi
  have t0 : mT (gm M I R J) p = 9 := P.1.1
  unfold f_X10_reads b_X10_reads_0 mt
  rw [ck_t hi, js_len hi, bd_S]
  by_cases c : sLn i = l
  · have e : nI (sLn i) = nI l := by rw [c]
    rw [if_pos e]
    have := lp_all (f := fun (q : gMem × Int32) => bb_X10_reads_13 Z q.1 p i (nI a) (nI l) q.2) (fun j => (gm M I R J, nI j)) (fun j => decide (tb T n (a + j) = sBy i j)) ((1 : Int32), gm M I R J) ((0 : Int32), gm M I R J) l 0 (fun j _ hj => ?_) ?_
    · unfold lp_X10_reads_13
      refine this.trans ?_
      simp only [c, decide_true, Bool.true_and]
      split <;> rfl
    · have q1 : ¬ nI l ≤ nI j := fun z => by have := (nI_leI (by omega) (by omega)).mp z; omega
      show bb_X10_reads_13 Z (gm M I R J) p i (nI a) (nI l) (nI j) = _
      unfold bb_X10_reads_13
      rw [if_neg q1, ck_t t0, nI_add, c_at P (by omega), bd_S, ck_t hi, js_char hi (by omega), bd_S, nI_1]
      by_cases e2 : tb T n (a + j) = sBy i j
      · rw [if_pos e2, if_pos (by simpa using e2)]
      · rw [if_neg e2, if_neg (by simpa using e2)]
        rfl
    · have q1 : nI l ≤ nI (0 + l) := nI_le (by omega) (by omega)
      show bb_X10_reads_13 Z (gm M I R J) p i (nI a) (nI l) (nI (0 + l)) = _
      unfold bb_X10_reads_13
      rw [if_pos q1]
      rfl
  · have e : ¬ nI (sLn i) = nI l := nI_ne c (by omega) (by omega)
    rw [if_neg e]
    simp [c]
theorem c_signOf {Z : Nat → Nat} {p n a l : Nat} {r : Option Nat} {T : Nat → Nat} {M : gMem} {I : Nat → Nat → Int32} {R : Nat → Nat → Option Nat} {J : Nat → Nat → Int64} (P : TP p n T M I R) (hZ : ∀ a b : Nat, a < 45 → b < 45 → Z a = Z b → a = b) (ha : a < 2 ^ 20) (hl : l < 2 ^ 20) : f_X10_signOf Z (gm M I R J) p (nI a) (nI l) r = some (match fndN (mt T n a l) 45 0 with | some i => some (Z i) | none => r, gm M I R J) := by
  have t0 : mT (gm M I R J) p = 9 := P.1.1
  unfold f_X10_signOf b_X10_signOf_0 lp_X10_signOf_13
  have := lp_find (f := fun (q : gMem × Int32) => bb_X10_signOf_13 Z q.1 p (nI a) (nI l) r (Int32.ofNat 45) q.2) (fun j => (gm M I R J, nI j)) (mt T n a l) (fun j => (some (Z j), gm M I R J)) (r, gm M I R J) 45 0 (fun j _ hj => ?_) ?_
  · refine this.trans ?_
    cases fndN (mt T n a l) 45 0 <;> rfl
  · have q1 : ¬ Int32.ofNat 45 ≤ nI j := fun z => by have := (nI_leI (a := 45) (by omega) (by omega)).mp z; omega
    have q2 : inb (nI j) 45 := (inbN (by omega)).mpr (by omega)
    have ecl : (nI j).toNatClampNeg = j := nI_clamp (by omega)
    have n1 : ¬ (1 : Int32) = 0 := by decide
    show bb_X10_signOf_13 Z (gm M I R J) p (nI a) (nI l) r (Int32.ofNat 45) (nI j) = _
    unfold bb_X10_signOf_13
    rw [if_neg q1, ck_t q2, ecl, dr_s (ordZ_e hZ (by omega)), ck_t t0, c_reads P ha hl (by omega), bd_S, nI_1]
    by_cases c : mt T n a l j = true
    · rw [if_pos c, if_pos c, if_neg n1]
      rfl
    · rw [if_neg c, if_neg c, if_pos rfl]
  · have q1 : Int32.ofNat 45 ≤ nI (0 + 45) := nI_le (by omega) (by omega)
    show bb_X10_signOf_13 Z (gm M I R J) p (nI a) (nI l) r (Int32.ofNat 45) (nI (0 + 45)) = _
    unfold bb_X10_signOf_13
    rw [if_pos q1]
    rfl
/-- the sign at a place where neither a letter nor a digit stands, and its length -/
def symG (T : Nat → Nat) (n a : Nat) : Nat × Nat := match fndN (mt T n a 2) 45 0 with
  | some i => (i, 2)
  | none => match fndN (mt T n a 1) 45 0 with
    | some i => (i, 1)
    | none => (43, 0)
theorem mt_len {T : Nat → Nat} {n a l i : Nat} (h : mt T n a l i = true) : sLn i = l := by
  unfold mt at h
  simp only [Bool.and_eq_true, decide_eq_true_eq] at h
  exact h.1
theorem c_scanSymbol {Z : Nat → Nat} {p n a : Nat} {T : Nat → Nat} {M : gMem} {I : Nat → Nat → Int32} {R : Nat → Nat → Option Nat} {J : Nat → Nat → Int64} (P : TP p n T M I R) (hZ : ∀ a b : Nat, a < 45 → b < 45 → Z a = Z b → a = b) (ha : a < 2 ^ 20) (h5 : I p 5 = nI a) : f_X10_scanSymbol Z (gm M I R J) p = some (some (Z (symG T n a).1), gm M (up2 I p 5 (nI (a + (symG T n a).2))) R J) := by
  have t0 : mT (gm M I R J) p = 9 := P.1.1
  have e5 : mI (gm M I R J) p 5 = nI a := h5
  have l43 : sLn 43 = 0 := by decide
  have step : ∀ l, 1 ≤ l → l ≤ 2 → bb_X10_scanSymbol_2 Z (gm M I R J) p (nI l) = match fndN (mt T n a l) 45 0 with
    | some i => some (.inr (some (Z i), gm M (up2 I p 5 (nI (a + l))) R J))
    | none => some (.inl (gm M I R J, nI (l - 1))) := by
    intro l h1 h2
    have q1 : ¬ nI l < (1 : Int32) := nI_nlt (b := 1) h1 (by omega)
    unfold bb_X10_scanSymbol_2
    rw [if_neg q1, ck_t t0, e5, c_signOf P hZ ha (by omega), bd_S, dn1 (by omega)]
    cases h : fndN (mt T n a l) 45 0 with
    | none => simp only [if_true]
    | some i =>
      obtain ⟨-, i1, i2⟩ := fndN_s 45 0 i h
      have hne : ¬ (some (Z i) : Option Nat) = some (Z 43) := fun z => by
        have := hZ i 43 (by omega) (by omega) (Option.some.inj z)
        subst this
        have := mt_len i2
        omega
      simp only
      rw [if_neg hne, ck_t t0, e5, nI_add, gm_wI]
      rfl
  unfold f_X10_scanSymbol b_X10_scanSymbol_0 lp_X10_scanSymbol_2 symG
  have s2 := step 2 (by omega) (by omega)
  have s1 := step 1 (by omega) (by omega)
  cases h2 : fndN (mt T n a 2) 45 0 with
  | some i =>
    rw [h2] at s2
    exact lp_out s2
  | none =>
    rw [h2] at s2
    refine (lp_in s2).trans ?_
    cases h1 : fndN (mt T n a 1) 45 0 with
    | some i =>
      rw [h1] at s1
      exact lp_out s1
    | none =>
      rw [h1] at s1
      refine (lp_in s1).trans (lp_out ?_)
      have q : nI (1 - 1) < (1 : Int32) := by decide
      have e : up2 I p 5 (nI (a + 0)) = I := by rw [Nat.add_zero, ← h5]; exact up2_self I p 5
      show bb_X10_scanSymbol_2 Z (gm M I R J) p (nI (1 - 1)) = some (.inr (some (Z 43), gm M (up2 I p 5 (nI (a + 0))) R J))
      unfold bb_X10_scanSymbol_2
      rw [if_pos q, e]
      rfl
/-- what a letter or digit counts; a word of l bytes as a number, a number of l bytes -/
def dg (c : Nat) : Nat := if 97 ≤ c then c - 97 + 11 else c - 48 + 1
def wv (T : Nat → Nat) (a : Nat) : Nat → Nat
  | 0 => 0
  | l + 1 => wv T a l * 37 + dg (T (a + l))
def nv (T : Nat → Nat) (a : Nat) : Nat → Nat
  | 0 => 0
  | l + 1 => nv T a l * 10 + (T (a + l) - 48)
def wEnd (T : Nat → Nat) (n a : Nat) : Nat := stp isA T (n - a) a
def nEnd (T : Nat → Nat) (n a : Nat) : Nat := stp isD T (n - a) a
/-- the word at a: its sign -/
def wdG (T : Nat → Nat) (n a : Nat) : Nat := if wEnd T n a - a ≤ 10 then (match fndN (mt T n a (wEnd T n a - a)) 45 0 with | some i => i | none => 40) else 43
def nmG (T : Nat → Nat) (n a : Nat) : Nat := if nEnd T n a - a ≤ 6 then 41 else 43
theorem c_scanWord {Z : Nat → Nat} {p n a i : Nat} {T : Nat → Nat} {M : gMem} {I : Nat → Nat → Int32} {R : Nat → Nat → Option Nat} {J : Nat → Nat → Int64} (P : TP p n T M I R) (hZ : ∀ a b : Nat, a < 45 → b < 45 → Z a = Z b → a = b) (ha : a ≤ n) (h5 : I p 5 = nI a) (hi : i < 401) : f_X10_scanWord Z (gm M I R J) p (nI i) = some (some (Z (wdG T n a)), gm M (up2 I p 5 (nI (wEnd T n a))) R (up2 J (p + 4) i (lN (wv T a (wEnd T n a - a))))) := by
  obtain ⟨h1, h2, h3, h4⟩ := stp_p (P := isA) (T := T) (n - a) a
  have hn2 : n ≤ 2000 := P.2.2.2.1
  have hle : wEnd T n a ≤ n := by unfold wEnd; omega
  have tp := fun e => (TP_5 (v := nI e) P)
  have i1 : inb (nI i) 401 := (inbN (by omega)).mpr hi
  have n1 : ¬ (1 : Int32) = 0 := by decide
  -- the end of the word
  have fin : b_X10_scanWord_106 Z (gm M (up2 I p 5 (nI (wEnd T n a))) R J) p (nI i) (nI a) (lN (wv T a (wEnd T n a - a))) = some (some (Z (wdG T n a)), gm M (up2 I p 5 (nI (wEnd T n a))) R (up2 J (p + 4) i (lN (wv T a (wEnd T n a - a))))) := by
    have e5 : up2 I p 5 (nI (wEnd T n a)) p 5 = nI (wEnd T n a) := up2_eq _ _ _ _
    have e6 : nI (wEnd T n a) - nI a = nI (wEnd T n a - a) := nI_sub h1
    unfold b_X10_scanWord_106 b_X10_scanWord_144 wdG
    rw [gm_T, ck_t P.1.1, gm_R, dr_s P.2.1.2.2.2, ck_t P.1.2.2.2.2.2.2.2.1, gm_L, P.1.2.2.2.2.2.2.2.2, ck_t i1, nI_clamp (by omega), gm_wJ]
    simp only [lw_S]
    rw [gm_I, e5, e6]
    by_cases c : wEnd T n a - a ≤ 10
    · have q : nI (wEnd T n a - a) ≤ (10 : Int32) := nI_le (b := 10) c (by omega)
      rw [if_pos q, if_pos c, c_signOf (tp _) hZ (by omega) (by omega), bd_S]
      cases fndN (mt T n a (wEnd T n a - a)) 45 0 <;> rfl
    · have q : ¬ nI (wEnd T n a - a) ≤ (10 : Int32) := fun z => by have := (nI_leI (b := 10) (by omega) (by omega)).mp z; omega
      rw [if_neg q, if_neg c]
  unfold f_X10_scanWord b_X10_scanWord_0 lp_X10_scanWord_7
  have t0 : mT (gm M I R J) p = 9 := P.1.1
  have e5 : mI (gm M I R J) p 5 = nI a := h5
  rw [ck_t t0, e5]
  have key := lp_seq (f := fun (q : gMem × Int64) => bb_X10_scanWord_7 Z q.1 p (nI i) (nI a) q.2) (fun j => (gm M (up2 I p 5 (nI j)) R J, lN (wv T a (j - a)))) a (wEnd T n a) (b := (some (Z (wdG T n a)), gm M (up2 I p 5 (nI (wEnd T n a))) R (up2 J (p + 4) i (lN (wv T a (wEnd T n a - a)))))) h1 (fun j j1 j2 => ?_) ?_
  · have e : up2 I p 5 (nI a) = I := by rw [← h5]; exact up2_self I p 5
    rw [e, Nat.sub_self] at key
    exact key
  · have hj : j < n := by omega
    have hA := h3 j j1 j2
    have hT := (P.2.2.2.2 j hj).2
    have t1 : mT (gm M (up2 I p 5 (nI j)) R J) p = 9 := P.1.1
    have f5 : up2 I p 5 (nI j) p 5 = nI j := up2_eq _ _ _ _
    have q1 : ¬ nI n ≤ nI j := fun z => by have := (nI_leI (by omega) (by omega)).mp z; omega
    have wS : ∀ c : Nat, dg (T j) = c → lN (wv T a (j - a)) * (37 : Int64) + lN c = lN (wv T a (j + 1 - a)) := by
      intro c hc
      rw [show j + 1 - a = (j - a) + 1 by omega, wv, show a + (j - a) = j by omega, hc, ← lN_add, ← lN_mul]
      rfl
    have w81 : ∀ (s : Int32) (c : Nat), s = nI c → c < 2 ^ 31 → dg (T j) = c → b_X10_scanWord_81 Z (gm M (up2 I p 5 (nI j)) R J) p (nI i) (nI a) (lN (wv T a (j - a))) s = some (.inl (gm M (up2 I p 5 (nI (j + 1))) R J, lN (wv T a (j + 1 - a)))) := by
      intro s c hs hc hd
      unfold b_X10_scanWord_81
      rw [ck_t t1, gm_I, f5, nI_1, gm_wI, up2_up2s, hs, nI_l hc, wS c hd]
      rfl
    have w40 : b_X10_scanWord_40 Z (gm M (up2 I p 5 (nI j)) R J) p (nI i) (nI a) (lN (wv T a (j - a))) = some (.inl (gm M (up2 I p 5 (nI (j + 1))) R J, lN (wv T a (j + 1 - a)))) := by
      unfold b_X10_scanWord_40
      rw [ck_t t1, gm_I, f5, c_isLetter (tp _) (by omega), bd_S]
      by_cases cL : isL (T j) = true
      · have hx : 97 ≤ T j ∧ T j ≤ 122 := by unfold isL at cL; simpa using cL
        rw [if_pos (show j < n ∧ isL (T j) = true from ⟨hj, cL⟩), if_neg n1, ck_t t1, gm_I, f5, c_at (tp _) (by omega), bd_S]
        unfold tb
        rw [if_pos hj, sB_lo (by omega)]
        refine w81 _ (T j - 97 + 11) ?_ (by omega) (by unfold dg; rw [if_pos hx.1])
        rw [show nI (T j) - (97 : Int32) = nI (T j - 97) from nI_sub hx.1]
        exact nI_add _ 11
      · have cD : isD (T j) = true := by unfold isA at hA; simpa [cL] using hA
        have hx : 48 ≤ T j ∧ T j ≤ 57 := by unfold isD at cD; simpa using cD
        rw [if_neg (show ¬ (j < n ∧ isL (T j) = true) from fun z => cL z.2), if_pos rfl, ck_t t1, gm_I, f5, c_at (tp _) (by omega), bd_S]
        unfold tb
        rw [if_pos hj, sB_lo (by omega)]
        refine w81 _ (T j - 48 + 1) ?_ (by omega) (by unfold dg; rw [if_neg (by omega)])
        rw [show nI (T j) - (48 : Int32) = nI (T j - 48) from nI_sub hx.1]
        exact nI_1 _
    show bb_X10_scanWord_7 Z (gm M (up2 I p 5 (nI j)) R J) p (nI i) (nI a) (lN (wv T a (j - a))) = _
    unfold bb_X10_scanWord_7
    rw [ck_t t1, gm_I, (tp j).2.2.1, f5, if_neg q1, c_isLetter (tp _) (by omega), bd_S]
    by_cases cL : isL (T j) = true
    · rw [if_pos (show j < n ∧ isL (T j) = true from ⟨hj, cL⟩), if_neg n1, w40]
    · have cD : isD (T j) = true := by unfold isA at hA; simpa [cL] using hA
      rw [if_neg (show ¬ (j < n ∧ isL (T j) = true) from fun z => cL z.2), if_pos rfl, ck_t t1, gm_I, f5, c_isDigit (tp _) (by omega), bd_S, if_pos (show j < n ∧ isD (T j) = true from ⟨hj, cD⟩), if_neg n1, w40]
  · have t1 : mT (gm M (up2 I p 5 (nI (wEnd T n a))) R J) p = 9 := P.1.1
    have f5 : up2 I p 5 (nI (wEnd T n a)) p 5 = nI (wEnd T n a) := up2_eq _ _ _ _
    show bb_X10_scanWord_7 Z (gm M (up2 I p 5 (nI (wEnd T n a))) R J) p (nI i) (nI a) (lN (wv T a (wEnd T n a - a))) = _
    unfold bb_X10_scanWord_7
    rw [ck_t t1, gm_I, (tp _).2.2.1, f5, fin]
    by_cases c : wEnd T n a = n
    · have q1 : nI n ≤ nI (wEnd T n a) := nI_le (by omega) (by omega)
      rw [if_pos q1]
      rfl
    · have q1 : ¬ nI n ≤ nI (wEnd T n a) := fun z => by have := (nI_leI (by omega) (by omega)).mp z; omega
      have hb : isA (T (wEnd T n a)) = false := by
        rcases h4 with h | h
        · exact absurd (show wEnd T n a = n by unfold wEnd; omega) c
        · exact h
      unfold isA at hb
      simp only [Bool.or_eq_false_iff] at hb
      rw [if_neg q1, c_isLetter (tp _) (by omega), bd_S, if_neg (show ¬ (wEnd T n a < n ∧ isL (T (wEnd T n a)) = true) from fun z => by rw [hb.1] at z; exact absurd z.2 (by decide)), if_pos rfl, ck_t t1, gm_I, f5, c_isDigit (tp _) (by omega), bd_S, if_neg (show ¬ (wEnd T n a < n ∧ isD (T (wEnd T n a)) = true) from fun z => by rw [hb.2] at z; exact absurd z.2 (by decide)), if_pos rfl, fin]
      rfl
theorem c_scanNumber {Z : Nat → Nat} {p n a i : Nat} {T : Nat → Nat} {M : gMem} {I : Nat → Nat → Int32} {R : Nat → Nat → Option Nat} {J : Nat → Nat → Int64} (P : TP p n T M I R) (ha : a ≤ n) (h5 : I p 5 = nI a) (hi : i < 401) : f_X10_scanNumber Z (gm M I R J) p (nI i) = some (some (Z (nmG T n a)), gm M (up2 I p 5 (nI (nEnd T n a))) R (up2 J (p + 4) i (lN (nv T a (nEnd T n a - a))))) := by
  obtain ⟨h1, h2, h3, h4⟩ := stp_p (P := isD) (T := T) (n - a) a
  have hn2 : n ≤ 2000 := P.2.2.2.1
  have hle : nEnd T n a ≤ n := by unfold nEnd; omega
  have tp := fun e => (TP_5 (v := nI e) P)
  have i1 : inb (nI i) 401 := (inbN (by omega)).mpr hi
  have n1 : ¬ (1 : Int32) = 0 := by decide
  have fin : b_X10_scanNumber_61 Z (gm M (up2 I p 5 (nI (nEnd T n a))) R J) p (nI i) (nI a) (lN (nv T a (nEnd T n a - a))) = some (some (Z (nmG T n a)), gm M (up2 I p 5 (nI (nEnd T n a))) R (up2 J (p + 4) i (lN (nv T a (nEnd T n a - a))))) := by
    have e5 : up2 I p 5 (nI (nEnd T n a)) p 5 = nI (nEnd T n a) := up2_eq _ _ _ _
    have e6 : nI (nEnd T n a) - nI a = nI (nEnd T n a - a) := nI_sub h1
    unfold b_X10_scanNumber_61 b_X10_scanNumber_88 nmG
    rw [gm_T, ck_t P.1.1, gm_R, dr_s P.2.1.2.2.2, ck_t P.1.2.2.2.2.2.2.2.1, gm_L, P.1.2.2.2.2.2.2.2.2, ck_t i1, nI_clamp (by omega), gm_wJ]
    simp only [lw_S]
    rw [gm_I, e5, e6]
    by_cases c : nEnd T n a - a ≤ 6
    · have q : nI (nEnd T n a - a) ≤ (6 : Int32) := nI_le (b := 6) c (by omega)
      rw [if_pos q, if_pos c]
    · have q : ¬ nI (nEnd T n a - a) ≤ (6 : Int32) := fun z => by have := (nI_leI (b := 6) (by omega) (by omega)).mp z; omega
      rw [if_neg q, if_neg c]
  unfold f_X10_scanNumber b_X10_scanNumber_0 lp_X10_scanNumber_7
  have t0 : mT (gm M I R J) p = 9 := P.1.1
  have e5 : mI (gm M I R J) p 5 = nI a := h5
  rw [ck_t t0, e5]
  have key := lp_seq (f := fun (q : gMem × Int64) => bb_X10_scanNumber_7 Z q.1 p (nI i) (nI a) q.2) (fun j => (gm M (up2 I p 5 (nI j)) R J, lN (nv T a (j - a)))) a (nEnd T n a) (b := (some (Z (nmG T n a)), gm M (up2 I p 5 (nI (nEnd T n a))) R (up2 J (p + 4) i (lN (nv T a (nEnd T n a - a)))))) h1 (fun j j1 j2 => ?_) ?_
  · have e : up2 I p 5 (nI a) = I := by rw [← h5]; exact up2_self I p 5
    rw [e, Nat.sub_self] at key
    exact key
  · have hj : j < n := by omega
    have hD := h3 j j1 j2
    have t1 : mT (gm M (up2 I p 5 (nI j)) R J) p = 9 := P.1.1
    have f5 : up2 I p 5 (nI j) p 5 = nI j := up2_eq _ _ _ _
    have q1 : ¬ nI n ≤ nI j := fun z => by have := (nI_leI (by omega) (by omega)).mp z; omega
    have hx : 48 ≤ T j ∧ T j ≤ 57 := by unfold isD at hD; simpa using hD
    have wS : lN (nv T a (j - a)) * (10 : Int64) + lN (T j - 48) = lN (nv T a (j + 1 - a)) := by
      rw [show j + 1 - a = (j - a) + 1 by omega, nv, show a + (j - a) = j by omega, ← lN_add, ← lN_mul]
      rfl
    show bb_X10_scanNumber_7 Z (gm M (up2 I p 5 (nI j)) R J) p (nI i) (nI a) (lN (nv T a (j - a))) = _
    unfold bb_X10_scanNumber_7
    rw [ck_t t1, gm_I, (tp j).2.2.1, f5, if_neg q1, c_isDigit (tp _) (by omega), bd_S, if_pos (show j < n ∧ isD (T j) = true from ⟨hj, hD⟩), if_neg n1, ck_t t1, gm_I, f5, c_at (tp _) (by omega), bd_S, ck_t t1]
    unfold tb
    rw [if_pos hj, sB_lo (by omega), show nI (T j) - (48 : Int32) = nI (T j - 48) from nI_sub hx.1, nI_l (by omega), gm_I, f5, nI_1, gm_wI, up2_up2s, wS]
    rfl
  · have t1 : mT (gm M (up2 I p 5 (nI (nEnd T n a))) R J) p = 9 := P.1.1
    have f5 : up2 I p 5 (nI (nEnd T n a)) p 5 = nI (nEnd T n a) := up2_eq _ _ _ _
    show bb_X10_scanNumber_7 Z (gm M (up2 I p 5 (nI (nEnd T n a))) R J) p (nI i) (nI a) (lN (nv T a (nEnd T n a - a))) = _
    unfold bb_X10_scanNumber_7
    rw [ck_t t1, gm_I, (tp _).2.2.1, f5, fin]
    by_cases c : nEnd T n a = n
    · have q1 : nI n ≤ nI (nEnd T n a) := nI_le (by omega) (by omega)
      rw [if_pos q1]
      rfl
    · have q1 : ¬ nI n ≤ nI (nEnd T n a) := fun z => by have := (nI_leI (by omega) (by omega)).mp z; omega
      have hb : isD (T (nEnd T n a)) = false := by
        rcases h4 with h | h
        · exact absurd (show nEnd T n a = n by unfold nEnd; omega) c
        · exact h
      rw [if_neg q1, c_isDigit (tp _) (by omega), bd_S, if_neg (show ¬ (nEnd T n a < n ∧ isD (T (nEnd T n a)) = true) from fun z => by rw [hb] at z; exact absurd z.2 (by decide)), if_pos rfl, fin]
      rfl
/-- the token at a: its sign, its end -/
def tkG (T : Nat → Nat) (n a : Nat) : Nat := if a < n then (if isL (T a) then wdG T n a else if isD (T a) then nmG T n a else (symG T n a).1) else 42
def tkE (T : Nat → Nat) (n a : Nat) : Nat := if a < n then (if isL (T a) then wEnd T n a else if isD (T a) then nEnd T n a else a + (symG T n a).2) else a
/-- what is told of a token: of a word and of a number what they are -/
def tkJ (T : Nat → Nat) (n a : Nat) : Option Nat := if a < n then (if isL (T a) then some (wv T a (wEnd T n a - a)) else if isD (T a) then some (nv T a (nEnd T n a - a)) else none) else none
theorem c_scanToken {Z : Nat → Nat} {p n a i : Nat} {T : Nat → Nat} {M : gMem} {I : Nat → Nat → Int32} {R : Nat → Nat → Option Nat} {J : Nat → Nat → Int64} (P : TP p n T M I R) (hZ : ∀ a b : Nat, a < 45 → b < 45 → Z a = Z b → a = b) (ha : a ≤ n) (h5 : I p 5 = nI a) (hi : i < 401) : f_X10_scanToken Z (gm M I R J) p (nI i) = some (some (Z (tkG T n a)), gm M (up2 I p 5 (nI (tkE T n a))) R (match tkJ T n a with | some v => up2 J (p + 4) i (lN v) | none => J)) := by
  have hn2 : n ≤ 2000 := P.2.2.2.1
  have t0 : mT (gm M I R J) p = 9 := P.1.1
  have e5 : mI (gm M I R J) p 5 = nI a := h5
  have e0 : mI (gm M I R J) p 0 = nI n := P.2.2.1
  have n1 : ¬ (1 : Int32) = 0 := by decide
  unfold f_X10_scanToken b_X10_scanToken_0 b_X10_scanToken_55 tkG tkE tkJ
  rw [ck_t t0, e5, e0]
  by_cases c : a < n
  · have q : nI a < nI n := nI_lt c (by omega)
    rw [if_pos q, if_pos c, if_pos c, if_pos c, c_isLetter P (by omega), bd_S]
    by_cases cL : isL (T a) = true
    · rw [if_pos (show a < n ∧ isL (T a) = true from ⟨c, cL⟩), if_neg n1, if_pos cL, if_pos cL, if_pos cL, ck_t t0, c_scanWord P hZ ha h5 hi, bd_S]
    · rw [if_neg (show ¬ (a < n ∧ isL (T a) = true) from fun z => cL z.2), if_pos rfl, if_neg cL, if_neg cL, if_neg cL, ck_t t0, e5, c_isDigit P (by omega), bd_S]
      by_cases cD : isD (T a) = true
      · rw [if_pos (show a < n ∧ isD (T a) = true from ⟨c, cD⟩), if_neg n1, if_pos cD, if_pos cD, if_pos cD, ck_t t0, c_scanNumber P ha h5 hi, bd_S]
      · rw [if_neg (show ¬ (a < n ∧ isD (T a) = true) from fun z => cD z.2), if_pos rfl, if_neg cD, if_neg cD, if_neg cD, ck_t t0, c_scanSymbol P hZ (by omega) h5, bd_S]
  · have q : ¬ nI a < nI n := nI_nlt (by omega) (by omega)
    have e : up2 I p 5 (nI a) = I := by rw [← h5]; exact up2_self I p 5
    rw [if_neg q, if_neg c, if_neg c, if_neg c, e]
/-- where token i begins -/
def pos (T : Nat → Nat) (n : Nat) : Nat → Nat
  | 0 => skp T n 0
  | i + 1 => skp T n (tkE T n (pos T n i))
/-- the sign of token i -/
def tok (T : Nat → Nat) (n i : Nat) : Nat := if i < 400 ∨ n ≤ pos T n i then tkG T n (pos T n i) else 43
theorem symG_e (T : Nat → Nat) (n a : Nat) (h : a < n) : a + (symG T n a).2 ≤ n ∨ (symG T n a).1 = 43 := by
  unfold symG
  cases h2 : fndN (mt T n a 2) 45 0 with
  | some i =>
    obtain ⟨-, i1, i2⟩ := fndN_s 45 0 i h2
    left
    show a + 2 ≤ n
    have hl := mt_len i2
    unfold mt at i2
    simp only [Bool.and_eq_true, decide_eq_true_eq] at i2
    have := (alN_t 2 0).mp i2.2 1 (by omega) (by omega)
    simp only [decide_eq_true_eq] at this
    have hz : ∀ i, i < 45 → sLn i = 2 → sBy i 1 ≠ 0 := by decide +kernel
    rcases Nat.lt_or_ge (a + 1) n with q | q
    · omega
    · exfalso
      unfold tb at this
      rw [if_neg (by omega)] at this
      exact hz i (by omega) hl this.symm
  | none =>
    cases h1 : fndN (mt T n a 1) 45 0 with
    | some i => left; show a + 1 ≤ n; omega
    | none => right; rfl
theorem skp_le {T : Nat → Nat} {n a : Nat} (h : a ≤ n) : a ≤ skp T n a ∧ skp T n a ≤ n := by
  obtain ⟨h1, h2, -, -⟩ := stp_p (P := isB) (T := T) (n - a) a
  unfold skp
  omega
theorem tkE_le {T : Nat → Nat} {n a : Nat} (h : a ≤ n) : a ≤ tkE T n a ∧ tkE T n a ≤ n := by
  unfold tkE
  by_cases c : a < n
  · rw [if_pos c]
    by_cases cL : isL (T a) = true
    · rw [if_pos cL]
      obtain ⟨h1, h2, -, -⟩ := stp_p (P := isA) (T := T) (n - a) a
      unfold wEnd
      omega
    · rw [if_neg cL]
      by_cases cD : isD (T a) = true
      · rw [if_pos cD]
        obtain ⟨h1, h2, -, -⟩ := stp_p (P := isD) (T := T) (n - a) a
        unfold nEnd
        omega
      · rw [if_neg cD]
        refine ⟨Nat.le_add_right _ _, ?_⟩
        rcases symG_e T n a c with e | e
        · exact e
        · unfold symG at e ⊢
          cases h2 : fndN (mt T n a 2) 45 0 with
          | some i =>
            obtain ⟨-, i1, i2⟩ := fndN_s 45 0 i h2
            rw [h2] at e
            have e : i = 43 := e
            subst e
            exact absurd (mt_len i2) (by decide)
          | none =>
            rw [h2] at e
            cases h1 : fndN (mt T n a 1) 45 0 with
            | some i =>
              obtain ⟨-, i1, i2⟩ := fndN_s 45 0 i h1
              rw [h1] at e
              have e : i = 43 := e
              subst e
              exact absurd (mt_len i2) (by decide)
            | none => show a + 0 ≤ n; omega
  · rw [if_neg c]; omega
/-- where the looking for token i begins -/
def bgn (T : Nat → Nat) (n : Nat) : Nat → Nat
  | 0 => 0
  | i + 1 => tkE T n (pos T n i)
theorem pos_b (T : Nat → Nat) (n : Nat) : ∀ i, pos T n i = skp T n (bgn T n i)
  | 0 => rfl
  | _ + 1 => rfl
theorem pos_le (T : Nat → Nat) (n : Nat) : ∀ i, bgn T n i ≤ n ∧ pos T n i ≤ n
  | 0 => ⟨Nat.zero_le _, (skp_le (Nat.zero_le _)).2⟩
  | i + 1 => by
    have h := (tkE_le (T := T) (pos_le T n i).2).2
    exact ⟨h, (skp_le h).2⟩
theorem fnd_g {T : Nat → Nat} {n a l i : Nat} (hl : 1 ≤ l) (h : fndN (mt T n a l) 45 0 = some i) : i < 40 := by
  obtain ⟨-, i1, i2⟩ := fndN_s 45 0 i h
  have := mt_len i2
  have hz : ∀ i, i < 45 → 1 ≤ sLn i → i < 40 := by decide +kernel
  exact hz i (by omega) (by omega)
theorem tkG_lt {T : Nat → Nat} {n a : Nat} (h : a ≤ n) : tkG T n a < 45 ∧ (42 ≤ tkG T n a → tkG T n a = 42 ∨ tkG T n a = 43) := by
  unfold tkG
  by_cases c : a < n
  · rw [if_pos c]
    by_cases cL : isL (T a) = true
    · rw [if_pos cL]
      unfold wdG
      have hl : 1 ≤ wEnd T n a - a := by
        have h1 := stp_p (P := isA) (T := T) (n - a) a
        unfold wEnd
        obtain ⟨k, hk⟩ : ∃ k, n - a = k + 1 := ⟨n - a - 1, by omega⟩
        rw [hk, stp]
        have : isA (T a) = true := by unfold isA; rw [cL]; rfl
        rw [if_pos this]
        have := (stp_p (P := isA) (T := T) k (a + 1)).1
        omega
      by_cases c1 : wEnd T n a - a ≤ 10
      · rw [if_pos c1]
        cases h2 : fndN (mt T n a (wEnd T n a - a)) 45 0 with
        | some i => have := fnd_g hl h2; simp only; omega
        | none => simp only; omega
      · rw [if_neg c1]; omega
    · rw [if_neg cL]
      by_cases cD : isD (T a) = true
      · rw [if_pos cD]
        unfold nmG
        by_cases c1 : nEnd T n a - a ≤ 6
        · rw [if_pos c1]; omega
        · rw [if_neg c1]; omega
      · rw [if_neg cD]
        unfold symG
        cases h2 : fndN (mt T n a 2) 45 0 with
        | some i => have := fnd_g (by omega) h2; simp only; omega
        | none =>
          cases h1 : fndN (mt T n a 1) 45 0 with
          | some i => have := fnd_g (by omega) h1; simp only; omega
          | none => exact ⟨by decide, fun _ => .inr rfl⟩
  · rw [if_neg c]; omega
theorem tok_lt (T : Nat → Nat) (n i : Nat) : tok T n i < 45 ∧ (42 ≤ tok T n i → tok T n i = 42 ∨ tok T n i = 43) := by
  unfold tok
  by_cases c : i < 400 ∨ n ≤ pos T n i
  · rw [if_pos c]; exact tkG_lt (pos_le T n i).2
  · rw [if_neg c]; omega
theorem tok_400 (T : Nat → Nat) (n : Nat) : 42 ≤ tok T n 400 := by
  unfold tok
  by_cases c : (400 : Nat) < 400 ∨ n ≤ pos T n 400
  · rw [if_pos c]
    unfold tkG
    rw [if_neg (by omega)]
    exact Nat.le_refl _
  · rw [if_neg c]; omega
/-- what a scan leaves -/
def scanned (Z : Nat → Nat) (T : Nat → Nat) (n p m : Nat) (I I' : Nat → Nat → Int32) (R R' : Nat → Nat → Option Nat) (J J' : Nat → Nat → Int64) : Prop :=
  (∀ i, i < m → I' (p + 3) i = nI (pos T n i) ∧ R' (p + 2) i = some (Z (tok T n i)) ∧ (i < 400 → ∀ v, tkJ T n (pos T n i) = some v → J' (p + 4) i = lN v)) ∧
  (∀ a k, a ≠ p + 3 → (a ≠ p ∨ k ≠ 5) → I' a k = I a k) ∧ (∀ a, a ≠ p + 2 → R' a = R a) ∧ ∀ a, a ≠ p + 4 → J' a = J a
theorem c_scan {Z : Nat → Nat} {p n : Nat} {T : Nat → Nat} {M : gMem} {I : Nat → Nat → Int32} {R : Nat → Nat → Option Nat} {J : Nat → Nat → Int64} (P : TP p n T M I R) (hZ : ∀ a b : Nat, a < 45 → b < 45 → Z a = Z b → a = b) : ∃ I' R' J' K, f_X10_scan Z (gm M I R J) p = some ((), gm M I' R' J') ∧ K ≤ 400 ∧ scanned Z T n p (K + 1) I I' R R' J J' ∧ (∀ i, i < K → tok T n i < 42) ∧ 42 ≤ tok T n K := by
  have hn2 : n ≤ 2000 := P.2.2.2.1
  have h42 : ∀ g, g < 45 → ((some (Z g) : Option Nat) = some (Z 42) ↔ g = 42) := fun g hg => ⟨fun z => hZ g 42 hg (by omega) (Option.some.inj z), fun z => by rw [z]⟩
  have h43 : ∀ g, g < 45 → ((some (Z g) : Option Nat) = some (Z 43) ↔ g = 43) := fun g hg => ⟨fun z => hZ g 43 hg (by omega) (Option.some.inj z), fun z => by rw [z]⟩
  have key : ∀ d i I1 R1 J1, i + d = 400 → I1 p 5 = nI (bgn T n i) → scanned Z T n p i I I1 R R1 J J1 → (∀ j, j < i → tok T n j < 42) → ∃ I' R' J' K, lp_X10_scan_7 Z (gm M I1 R1 J1) p (nI i) = some ((), gm M I' R' J') ∧ K ≤ 400 ∧ scanned Z T n p (K + 1) I I' R R' J J' ∧ (∀ i, i < K → tok T n i < 42) ∧ 42 ≤ tok T n K := by
    intro d
    induction d with
    | zero =>
      intro i I1 R1 J1 hi h5 hS hlt
      have : i = 400 := by omega
      subst this
      -- the last one
      obtain ⟨s1, s2, s3, s4⟩ := hS
      have P1 : TP p n T M I1 R1 := TP_R (TP_I P (s2 p 0 (by omega) (by omega)) (fun q _ => s2 _ _ (by omega) (by omega))) (s3 p (by omega))
      obtain ⟨b1, b2⟩ := pos_le T n 400
      have hskip := c_skip (J := J1) P1 b1 h5
      rw [← pos_b] at hskip
      have i1 : inb (nI 400) 401 := (inbN (by omega)).mpr (by omega)
      have q0 : ¬ (400 : Int32) < nI 400 := by decide
      have q1 : ¬ nI 400 < (400 : Int32) := by decide
      have P2 : TP p n T M (up2 (up2 I1 p 5 (nI (pos T n 400))) (p + 3) 400 (nI (pos T n 400))) R1 := TP_I (TP_5 P1) (up2_ne (by omega)) (fun q _ => up2_ne (by omega))
      have e5 : up2 I1 p 5 (nI (pos T n 400)) p 5 = nI (pos T n 400) := up2_eq _ _ _ _
      have f5 : up2 (up2 I1 p 5 (nI (pos T n 400))) (p + 3) 400 (nI (pos T n 400)) p 5 = nI (pos T n 400) := by rw [up2_ne (by omega), e5]
      have f0 : up2 (up2 I1 p 5 (nI (pos T n 400))) (p + 3) 400 (nI (pos T n 400)) p 0 = nI n := P2.2.2.1
      have hg := tok_lt T n 400
      have hg4 := tok_400 T n
      have fin62 : ∀ I3 J3, b_X10_scan_62 Z (gm M I3 R1 J3) p (nI 400) (some (p + 2)) (nI 400) (some (Z (tok T n 400))) = some (.inr ((), gm M I3 (up2 R1 (p + 2) 400 (some (Z (tok T n 400)))) J3)) := by
        intro I3 J3
        have r2 : up2 R1 (p + 2) 400 (some (Z (tok T n 400))) p 2 = some (p + 2) := by rw [up2_ne (by omega)]; exact P1.2.1.2.1
        have re : up2 R1 (p + 2) 400 (some (Z (tok T n 400))) (p + 2) (nI 400).toNatClampNeg = some (Z (tok T n 400)) := by rw [nI_clamp (by omega)]; exact up2_eq _ _ _ _
        have wr : wR (gm M I3 R1 J3) (p + 2) (nI 400).toNatClampNeg (some (Z (tok T n 400))) = gm M I3 (up2 R1 (p + 2) 400 (some (Z (tok T n 400)))) J3 := by rw [nI_clamp (by omega)]; rfl
        unfold b_X10_scan_62 b_X10_scan_87
        rw [dr_S, gm_T, ck_t P1.1.2.2.2.1, gm_L, P1.1.2.2.2.2.1, ck_t i1, dr_s (ordZ_e hZ hg.1), wr]
        simp only [lw_S]
        rw [gm_T, ck_t P1.1.1, gm_R, dr_s r2, ck_t P1.1.2.2.2.1, gm_L, P1.1.2.2.2.2.1, ck_t i1, re]
        rcases hg.2 hg4 with h | h
        · rw [if_pos ((h42 _ hg.1).mpr h)]
          rfl
        · rw [if_neg (fun z => by have := (h42 _ hg.1).mp z; omega), ck_t i1, if_pos ((h43 _ hg.1).mpr h)]
          rfl
      have step : ∀ I3 J3, bb_X10_scan_7 Z (gm M I1 R1 J1) p (nI 400) = some (.inr ((), gm M I3 (up2 R1 (p + 2) 400 (some (Z (tok T n 400)))) J3)) → I3 (p + 3) 400 = nI (pos T n 400) → (∀ a k, (a ≠ p + 3 ∨ k ≠ 400) → (a ≠ p ∨ k ≠ 5) → I3 a k = I1 a k) → J3 = J1 → ∃ I' R' J' K, lp_X10_scan_7 Z (gm M I1 R1 J1) p (nI 400) = some ((), gm M I' R' J') ∧ K ≤ 400 ∧ scanned Z T n p (K + 1) I I' R R' J J' ∧ (∀ i, i < K → tok T n i < 42) ∧ 42 ≤ tok T n K := by
        intro I3 J3 hb h3 hI hJ
        subst hJ
        refine ⟨I3, up2 R1 (p + 2) 400 (some (Z (tok T n 400))), J3, 400, ?_, Nat.le_refl _, ⟨fun i hi => ?_, fun a k h1 h2 => ?_, fun a ha => ?_, s4⟩, hlt, hg4⟩
        · unfold lp_X10_scan_7
          exact lp_out hb
        · by_cases c : i = 400
          · subst c
            exact ⟨h3, up2_eq _ _ _ _, fun z => absurd z (by omega)⟩
          · obtain ⟨t1, t2, t3⟩ := s1 i (by omega)
            exact ⟨by rw [hI _ _ (by omega) (by omega), t1], by rw [up2_ne (by omega), t2], t3⟩
        · rw [hI a k (.inl h1) h2, s2 a k h1 h2]
        · have : up2 R1 (p + 2) 400 (some (Z (tok T n 400))) a = R1 a := funext fun k => up2_ne (.inl ha)
          rw [this, s3 a ha]
      have head : ∀ b, (if nI (pos T n 400) < nI n then b_X10_scan_62 Z (gm M (up2 (up2 I1 p 5 (nI (pos T n 400))) (p + 3) 400 (nI (pos T n 400))) R1 J1) p (nI 400) (some (p + 2)) (nI 400) (some (Z 43)) else b_X10_scan_51 Z (gm M (up2 (up2 I1 p 5 (nI (pos T n 400))) (p + 3) 400 (nI (pos T n 400))) R1 J1) p (nI 400) (some (p + 2)) (nI 400)) = b → bb_X10_scan_7 Z (gm M I1 R1 J1) p (nI 400) = b := by
        intro b hb
        rw [← hb]
        unfold bb_X10_scan_7
        rw [if_neg q0, gm_T, ck_t P1.1.1, hskip, bd_S, gm_T, ck_t P1.1.1, gm_R, dr_s P1.2.1.2.2.1, ck_t P1.1.2.2.2.2.2.1, gm_L, P1.1.2.2.2.2.2.2.1, ck_t i1, nI_clamp (by omega), gm_I, e5, gm_wI]
        simp only [lw_S]
        rw [if_neg q1, gm_I, f5, f0, gm_R, P1.2.1.2.1]
      by_cases c : pos T n 400 < n
      · have ht : tok T n 400 = 43 := by unfold tok; rw [if_neg (by omega)]
        have q : nI (pos T n 400) < nI n := nI_lt c (by omega)
        refine step (up2 (up2 I1 p 5 (nI (pos T n 400))) (p + 3) 400 (nI (pos T n 400))) J1 (head _ ?_) (up2_eq _ _ _ _) (fun a k h1 h2 => by rw [up2_ne h1, up2_ne h2]) rfl
        rw [if_pos q, ← ht]
        exact fin62 _ _
      · have q : ¬ nI (pos T n 400) < nI n := nI_nlt (by omega) (by omega)
        have ht : tok T n 400 = tkG T n (pos T n 400) := by unfold tok; rw [if_pos (by omega)]
        have hj : tkJ T n (pos T n 400) = none := by unfold tkJ; rw [if_neg c]
        have hs := c_scanToken (J := J1) (i := 400) P2 hZ b2 f5 (by omega)
        rw [hj] at hs
        refine step (up2 (up2 (up2 I1 p 5 (nI (pos T n 400))) (p + 3) 400 (nI (pos T n 400))) p 5 (nI (tkE T n (pos T n 400)))) J1 (head _ ?_) (by rw [up2_ne (by omega), up2_eq]) (fun a k h1 h2 => by rw [up2_ne h2, up2_ne h1, up2_ne h2]) rfl
        rw [if_neg q]
        unfold b_X10_scan_51
        rw [gm_T, ck_t P1.1.1, hs, bd_S, ← ht]
        exact fin62 _ _
    | succ d ih =>
      intro i I1 R1 J1 hi h5 hS hlt
      obtain ⟨s1, s2, s3, s4⟩ := hS
      have P1 : TP p n T M I1 R1 := TP_R (TP_I P (s2 p 0 (by omega) (by omega)) (fun q _ => s2 _ _ (by omega) (by omega))) (s3 p (by omega))
      obtain ⟨b1, b2⟩ := pos_le T n i
      have hskip := c_skip (J := J1) P1 b1 h5
      rw [← pos_b] at hskip
      have i1 : inb (nI i) 401 := (inbN (by omega)).mpr (by omega)
      have q0 : ¬ (400 : Int32) < nI i := nI_nlt (a := 400) (by omega) (by omega)
      have q1 : nI i < (400 : Int32) := nI_lt (b := 400) (by omega) (by omega)
      have P2 : TP p n T M (up2 (up2 I1 p 5 (nI (pos T n i))) (p + 3) i (nI (pos T n i))) R1 := TP_I (TP_5 P1) (up2_ne (by omega)) (fun q _ => up2_ne (by omega))
      have e5 : up2 I1 p 5 (nI (pos T n i)) p 5 = nI (pos T n i) := up2_eq _ _ _ _
      have f5 : up2 (up2 I1 p 5 (nI (pos T n i))) (p + 3) i (nI (pos T n i)) p 5 = nI (pos T n i) := by rw [up2_ne (by omega), e5]
      have hg := tok_lt T n i
      have ht : tok T n i = tkG T n (pos T n i) := by unfold tok; rw [if_pos (.inl (by omega))]
      have hs := c_scanToken (J := J1) (i := i) P2 hZ b2 f5 (by omega)
      rw [← ht] at hs
      obtain ⟨J3, hJ3⟩ : ∃ J3, J3 = (match tkJ T n (pos T n i) with | some v => up2 J1 (p + 4) i (lN v) | none => J1) := ⟨_, rfl⟩
      rw [← hJ3] at hs
      obtain ⟨I3, hI3⟩ : ∃ I3, I3 = up2 (up2 (up2 I1 p 5 (nI (pos T n i))) (p + 3) i (nI (pos T n i))) p 5 (nI (tkE T n (pos T n i))) := ⟨_, rfl⟩
      rw [← hI3] at hs
      have r2 : up2 R1 (p + 2) i (some (Z (tok T n i))) p 2 = some (p + 2) := by rw [up2_ne (by omega)]; exact P1.2.1.2.1
      have re : up2 R1 (p + 2) i (some (Z (tok T n i))) (p + 2) (nI i).toNatClampNeg = some (Z (tok T n i)) := by rw [nI_clamp (by omega)]; exact up2_eq _ _ _ _
      have wr : wR (gm M I3 R1 J3) (p + 2) (nI i).toNatClampNeg (some (Z (tok T n i))) = gm M I3 (up2 R1 (p + 2) i (some (Z (tok T n i)))) J3 := by rw [nI_clamp (by omega)]; rfl
      have ws : wI (gm M (up2 I1 p 5 (nI (pos T n i))) R1 J1) (p + 3) (nI i).toNatClampNeg (nI (pos T n i)) = gm M (up2 (up2 I1 p 5 (nI (pos T n i))) (p + 3) i (nI (pos T n i))) R1 J1 := by rw [nI_clamp (by omega)]; rfl
      have head : bb_X10_scan_7 Z (gm M I1 R1 J1) p (nI i) = if 42 ≤ tok T n i then some (.inr ((), gm M I3 (up2 R1 (p + 2) i (some (Z (tok T n i)))) J3)) else some (.inl (gm M I3 (up2 R1 (p + 2) i (some (Z (tok T n i)))) J3, nI (i + 1))) := by
        unfold bb_X10_scan_7 b_X10_scan_51 b_X10_scan_62 b_X10_scan_87
        rw [if_neg q0, gm_T, ck_t P1.1.1, hskip, bd_S, gm_T, ck_t P1.1.1, gm_R, dr_s P1.2.1.2.2.1, ck_t P1.1.2.2.2.2.2.1, gm_L, P1.1.2.2.2.2.2.2.1, ck_t i1, gm_I, e5, ws]
        simp only [lw_S]
        rw [if_pos q1, gm_T, ck_t P1.1.1, gm_R, P1.2.1.2.1, hs, bd_S, dr_S, gm_T, ck_t P1.1.2.2.2.1, gm_L, P1.1.2.2.2.2.1, ck_t i1, dr_s (ordZ_e hZ hg.1), wr]
        rw [gm_T, ck_t P1.1.1, gm_R, dr_s r2, ck_t P1.1.2.2.2.1, gm_L, P1.1.2.2.2.2.1, ck_t i1, re]
        by_cases c : 42 ≤ tok T n i
        · rw [if_pos c]
          rcases hg.2 c with h | h
          · rw [if_pos ((h42 _ hg.1).mpr h)]
            rfl
          · rw [if_neg (fun z => by have := (h42 _ hg.1).mp z; omega), ck_t i1, if_pos ((h43 _ hg.1).mpr h)]
            rfl
        · rw [if_neg c, if_neg (fun z => by have := (h42 _ hg.1).mp z; omega), ck_t i1, if_neg (fun z => by have := (h43 _ hg.1).mp z; omega), nI_1]
      have hS' : scanned Z T n p (i + 1) I I3 R (up2 R1 (p + 2) i (some (Z (tok T n i)))) J J3 := by
        refine ⟨fun j hj => ?_, fun a k h1 h2 => ?_, fun a ha => ?_, fun a ha => ?_⟩
        · by_cases c : j = i
          · subst c
            refine ⟨by rw [hI3, up2_ne (by omega), up2_eq], up2_eq _ _ _ _, fun _ v hv => ?_⟩
            rw [hJ3, hv]
            exact up2_eq _ _ _ _
          · obtain ⟨t1, t2, t3⟩ := s1 j (by omega)
            refine ⟨by rw [hI3, up2_ne (by omega), up2_ne (by omega), up2_ne (by omega), t1], by rw [up2_ne (by omega), t2], fun h v hv => ?_⟩
            rw [hJ3, ← t3 h v hv]
            cases tkJ T n (pos T n i) with
            | none => rfl
            | some w => exact up2_ne (.inr c)
        · rw [hI3, up2_ne h2, up2_ne (.inl h1), up2_ne h2, s2 a k h1 h2]
        · have : up2 R1 (p + 2) i (some (Z (tok T n i))) a = R1 a := funext fun k => up2_ne (.inl ha)
          rw [this, s3 a ha]
        · rw [hJ3, ← s4 a ha]
          cases tkJ T n (pos T n i) with
          | none => rfl
          | some w => exact funext fun k => up2_ne (.inl ha)
      by_cases c : 42 ≤ tok T n i
      · rw [if_pos c] at head
        refine ⟨I3, up2 R1 (p + 2) i (some (Z (tok T n i))), J3, i, ?_, by omega, hS', hlt, c⟩
        unfold lp_X10_scan_7
        exact lp_out head
      · rw [if_neg c] at head
        obtain ⟨I', R', J', K, k1, k2⟩ := ih (i + 1) I3 (up2 R1 (p + 2) i (some (Z (tok T n i)))) J3 (by omega) (by rw [hI3, up2_eq]; rfl) hS' (fun j hj => by
          by_cases e : j = i
          · subst e; omega
          · exact hlt j (by omega))
        refine ⟨I', R', J', K, ?_, k2⟩
        rw [← k1]
        unfold lp_X10_scan_7
        exact lp_in head
  obtain ⟨I', R', J', K, k1, k2, k3, k4⟩ := key 400 0 (up2 I p 5 0) R J (by omega) (by rw [up2_eq]; rfl) ⟨fun i hi => absurd hi (Nat.not_lt_zero i), fun a k h1 h2 => up2_ne h2, fun _ _ => rfl, fun _ _ => rfl⟩ (fun j hj => absurd hj (Nat.not_lt_zero j))
  refine ⟨I', R', J', K, ?_, k2, k3, k4⟩
  unfold f_X10_scan b_X10_scan_0
  rw [gm_T, ck_t P.1.1, gm_wI]
  exact k1

