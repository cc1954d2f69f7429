/-! ## Pure: the class's reader at r: its tape p, the shore o that it builds; its small methods -/
theorem up2_2 {α : Type} (f : Nat → Nat → α) (a k : Nat) (v w : α) : up2 (up2 f a k v) a k w = up2 f a k w := by
  funext b j
  unfold up2
  by_cases c : b = a ∧ j = k
  · rw [if_pos c, if_pos c]
  · rw [if_neg c, if_neg c, if_neg c]
theorem up2_cm {α : Type} {f : Nat → Nat → α} {a k b j : Nat} {v w : α} (h : a ≠ b ∨ k ≠ j) : up2 (up2 f a k v) b j w = up2 (up2 f b j w) a k v := by
  funext c i
  unfold up2
  by_cases c1 : c = b ∧ i = j
  · rw [if_pos c1, if_neg (by omega), if_pos c1]
  · rw [if_neg c1]
    by_cases c2 : c = a ∧ i = k
    · rw [if_pos c2, if_pos c2]
    · rw [if_neg c2, if_neg c2, if_neg c1]
theorem wI_2 (M : gMem) (a k : Nat) (v w : Int32) : wI (wI M a k v) a k w = wI M a k w := by
  show (mT M, mL M, up2 (up2 (mI M) a k v) a k w, mR M, mJ M, mN M) = _
  rw [up2_2]
  rfl
theorem wI_cm {M : gMem} {a k b j : Nat} {v w : Int32} (h : a ≠ b ∨ k ≠ j) : wI (wI M a k v) b j w = wI (wI M b j w) a k v := by
  show (mT M, mL M, up2 (up2 (mI M) a k v) b j w, mR M, mJ M, mN M) = (mT M, mL M, up2 (up2 (mI M) b j w) a k v, mR M, mJ M, mN M)
  rw [up2_cm h]
theorem wI_e (M : gMem) (a k : Nat) (v : Int32) : mI (wI M a k v) a k = v := up2_eq _ _ _ _
theorem wI_o {M : gMem} {a k b j : Nat} {v : Int32} (h : b ≠ a ∨ j ≠ k) : mI (wI M a k v) b j = mI M b j := up2_ne h
theorem wI_s {M : gMem} {a k : Nat} {v : Int32} (h : mI M a k = v) : wI M a k v = M := by
  show (mT M, mL M, up2 (mI M) a k v, mR M, mJ M, mN M) = _
  rw [← h]
  show (mT M, mL M, up2 (mI M) a k (mI M a k), mR M, mJ M, mN M) = _
  rw [up2_self]
def cap (r x : Nat) : Nat := if x = r + 5 then 6 else 8
def isX (r x : Nat) : Prop := x = r + 1 ∨ x = r + 3 ∨ x = r + 5
def CB (r p o : Nat) (M : gMem) : Prop :=
  (mT M r = 6 ∧ mR M r 1 = some p ∧ mR M r 2 = some o ∧ mR M r 3 = some (r + 1) ∧ mR M r 4 = some (r + 3) ∧ mR M r 5 = some (r + 5)) ∧
  (mT M p = 9 ∧ mR M p 2 = some (p + 2) ∧ mR M p 3 = some (p + 3) ∧ mR M p 4 = some (p + 4) ∧ mT M (p + 2) = 27 ∧ mL M (p + 2) = 401 ∧ mT M (p + 3) = 20 ∧ mL M (p + 3) = 401 ∧ mT M (p + 4) = 21 ∧ mL M (p + 4) = 401) ∧
  (∀ x, isX r x → mT M x = 4 ∧ mR M x 0 = some (x + 1) ∧ mT M (x + 1) = 21 ∧ mL M (x + 1) = cap r x) ∧ LC o M ∧ p + 5 ≤ o ∧ o + 86 ≤ r
def CT (Z g ps vs : Nat → Nat) (K p : Nat) (M : gMem) : Prop := ∀ i, i ≤ K → mR M (p + 2) i = some (Z (g i)) ∧ mI M (p + 3) i = nI (ps i) ∧ (g i = 40 ∨ g i = 41 → mJ M (p + 4) i = lN (vs i))
/-- what a new ground, fisher and pact are -/
def FRS (o : Nat) (M : gMem) : Prop := (∀ k, k < 3 → mI M (o + 12) k = 0) ∧ (∀ k, 1 ≤ k → k < 6 → mI M (o + 13) k = 0) ∧ (∀ k, k < 10 → mI M (o + 14) k = if k = 6 then -1 else 0) ∧ (∀ k, k < 8 → mI M (o + 15) k = 0) ∧ (∀ k, k < 8 → mI M (o + 16) k = if k = 0 then -1 else 0) ∧ ∀ k, k < 8 → mI M (o + 17) k = 0
/-- where the reader writes ints -/
def rg (r o a : Nat) : Prop := (o ≤ a ∧ a < o + 12) ∨ (o + 18 ≤ a ∧ a < o + 86) ∨ (r ≤ a ∧ a < r + 7)
/-- the world that the reader begins in -/
def CWd (Z g ps vs : Nat → Nat) (K r p o : Nat) (M : gMem) : Prop :=
  CB r p o M ∧ FRS o M ∧ CT Z g ps vs K p M ∧ (∀ a b : Nat, a < 45 → b < 45 → Z a = Z b → a = b) ∧ (∀ i, g i < 45) ∧ K ≤ 400 ∧ ∀ i, i ≤ K → g i < 42 → i + 1 ≤ K
/-- the counts keep to their limits -/
def SF (r o : Nat) (M : gMem) : Prop :=
  (∀ x, isX r x → ∃ a, a ≤ cap r x ∧ mI M x 1 = nI a) ∧ (∃ a, a ≤ 8 ∧ mI M o 2 = nI a) ∧ (∃ a, a ≤ 8 ∧ mI M o 3 = nI a) ∧ (∃ a, a ≤ 24 ∧ mI M o 4 = nI a) ∧ (∃ a, a ≤ 6 ∧ mI M o 5 = nI a) ∧ (∃ a, a ≤ 400 ∧ mI M (o + 5) 0 = nI a) ∧ ∀ q, q < 6 → ∃ c, c ≤ 8 ∧ mI M (o + (74 + 2 * q)) 3 = nI c
def CI (r o : Nat) (M0 M : gMem) : Prop :=
  (mT M = mT M0 ∧ mL M = mL M0 ∧ mN M = mN M0) ∧ (∀ a, a ≠ o + 6 → mR M a = mR M0 a) ∧ (∀ a, ¬ rg r o a → mI M a = mI M0 a) ∧ (∀ a, (a < r ∨ r + 7 ≤ a) → mJ M a = mJ M0 a) ∧ SF r o M
theorem LC_c {o : Nat} {M0 M : gMem} (h1 : mT M = mT M0) (h2 : mL M = mL M0) (h3 : ∀ a, a ≠ o + 6 → mR M a = mR M0 a) (L : LC o M0) : LC o M := fun d hd => by
  obtain ⟨a, b, c⟩ := L d hd
  rw [h1, h2]
  exact ⟨a, b, fun h6 k => by rw [h3 (o + d) (by omega)]; exact c h6 k⟩
theorem CI_B {r p o : Nat} {M0 M : gMem} (B : CB r p o M0) (C : CI r o M0 M) : CB r p o M := by
  obtain ⟨⟨h1, h2, h3⟩, hR, -⟩ := C
  obtain ⟨b1, b2, b3, b4, b5, b6⟩ := B
  have e1 := hR r (by omega)
  have e2 := hR p (by omega)
  have e3 : ∀ x, isX r x → mR M x = mR M0 x := fun x hx => hR x (by rcases hx with h | h | h <;> omega)
  refine ⟨?_, ?_, fun x hx => ?_, LC_c h1 h2 hR b4, b5, b6⟩
  · rw [h1, e1]; exact b1
  · rw [h1, h2, e2]; exact b2
  · rw [h1, h2, e3 x hx]; exact b3 x hx
theorem CI_T {Z g ps vs : Nat → Nat} {K r p o : Nat} {M0 M : gMem} (B : CB r p o M0) (T : CT Z g ps vs K p M0) (C : CI r o M0 M) : CT Z g ps vs K p M := fun i hi => by
  obtain ⟨-, hR, hI, hJ, -⟩ := C
  have b5 := B.2.2.2.2.1
  have b6 := B.2.2.2.2.2
  rw [hR (p + 2) (by omega), hI (p + 3) (by unfold rg; omega), hJ (p + 4) (by omega)]
  exact T i hi
/-- what a write may not touch -/
def hot (r o a k : Nat) : Prop := (isX r a ∧ k = 1) ∨ (a = o ∧ 2 ≤ k ∧ k ≤ 5) ∨ (a = o + 5 ∧ k = 0) ∨ (o + 74 ≤ a ∧ a < o + 86 ∧ k = 3)
theorem SF_w {r o a k : Nat} {v : Int32} {M : gMem} (S : SF r o M) (h1 : isX r a → k = 1 → ∃ n, n ≤ cap r a ∧ v = nI n) (h2 : a = o → k = 2 → ∃ n, n ≤ 8 ∧ v = nI n) (h3 : a = o → k = 3 → ∃ n, n ≤ 8 ∧ v = nI n) (h4 : a = o → k = 4 → ∃ n, n ≤ 24 ∧ v = nI n) (h5 : a = o → k = 5 → ∃ n, n ≤ 6 ∧ v = nI n) (h6 : a = o + 5 → k = 0 → ∃ n, n ≤ 400 ∧ v = nI n) (h7 : o + 74 ≤ a → a < o + 86 → k = 3 → ∃ n, n ≤ 8 ∧ v = nI n) : SF r o (wI M a k v) := by
  obtain ⟨s1, s2, s3, s4, s5, s6, s7⟩ := S
  refine ⟨fun x hx => ?_, ?_, ?_, ?_, ?_, ?_, fun q hq => ?_⟩
  · by_cases e : x = a ∧ 1 = k
    · obtain ⟨n, n1, n2⟩ := h1 (e.1 ▸ hx) e.2.symm
      exact ⟨n, by rw [e.1]; exact n1, by rw [e.1, e.2, wI_e]; exact n2⟩
    · rw [wI_o (by omega)]; exact s1 x hx
  · by_cases e : o = a ∧ 2 = k
    · obtain ⟨n, n1, n2⟩ := h2 e.1.symm e.2.symm
      exact ⟨n, n1, by rw [e.1, e.2, wI_e]; exact n2⟩
    · rw [wI_o (by omega)]; exact s2
  · by_cases e : o = a ∧ 3 = k
    · obtain ⟨n, n1, n2⟩ := h3 e.1.symm e.2.symm
      exact ⟨n, n1, by rw [e.1, e.2, wI_e]; exact n2⟩
    · rw [wI_o (by omega)]; exact s3
  · by_cases e : o = a ∧ 4 = k
    · obtain ⟨n, n1, n2⟩ := h4 e.1.symm e.2.symm
      exact ⟨n, n1, by rw [e.1, e.2, wI_e]; exact n2⟩
    · rw [wI_o (by omega)]; exact s4
  · by_cases e : o = a ∧ 5 = k
    · obtain ⟨n, n1, n2⟩ := h5 e.1.symm e.2.symm
      exact ⟨n, n1, by rw [e.1, e.2, wI_e]; exact n2⟩
    · rw [wI_o (by omega)]; exact s5
  · by_cases e : o + 5 = a ∧ 0 = k
    · obtain ⟨n, n1, n2⟩ := h6 e.1.symm e.2.symm
      exact ⟨n, n1, by rw [e.1, e.2, wI_e]; exact n2⟩
    · rw [wI_o (by omega)]; exact s6
  · by_cases e : o + (74 + 2 * q) = a ∧ 3 = k
    · obtain ⟨n, n1, n2⟩ := h7 (by omega) (by omega) e.2.symm
      exact ⟨n, n1, by rw [e.1, e.2, wI_e]; exact n2⟩
    · rw [wI_o (by omega)]; exact s7 q hq
theorem CI_w {r o a k : Nat} {v : Int32} {M0 M : gMem} (C : CI r o M0 M) (hr : rg r o a) (S : SF r o (wI M a k v)) : CI r o M0 (wI M a k v) := by
  obtain ⟨h1, hR, hI, hJ, -⟩ := C
  refine ⟨h1, hR, fun b b1 => ?_, hJ, S⟩
  rw [← hI b b1]
  funext j
  exact up2_ne (.inl (fun e => b1 (e ▸ hr)))
theorem CI_wI {r o a k : Nat} {v : Int32} {M0 M : gMem} (C : CI r o M0 M) (hr : rg r o a) (hh : ¬ hot r o a k) : CI r o M0 (wI M a k v) := by
  refine CI_w C hr ?_
  unfold hot at hh
  exact SF_w C.2.2.2.2 (fun a b => absurd (.inl ⟨a, b⟩) hh) (fun a b => absurd (.inr (.inl (by omega))) hh) (fun a b => absurd (.inr (.inl (by omega))) hh) (fun a b => absurd (.inr (.inl (by omega))) hh) (fun a b => absurd (.inr (.inl (by omega))) hh) (fun a b => absurd (.inr (.inr (.inl (by omega)))) hh) (fun a b c => absurd (.inr (.inr (.inr (by omega)))) hh)
theorem CI_wR {r o k : Nat} {v : Option Nat} {M0 M : gMem} (C : CI r o M0 M) : CI r o M0 (wR M (o + 6) k v) := by
  obtain ⟨h1, hR, hI, hJ, S⟩ := C
  refine ⟨h1, fun a ha => ?_, hI, hJ, S⟩
  rw [← hR a ha]
  funext j
  exact up2_ne (.inl ha)
theorem CI_wJ {r o a k : Nat} {v : Int64} {M0 M : gMem} (C : CI r o M0 M) (hr : r ≤ a ∧ a < r + 7) : CI r o M0 (wJ M a k v) := by
  obtain ⟨h1, hR, hI, hJ, S⟩ := C
  refine ⟨h1, hR, hI, fun b hb => ?_, S⟩
  rw [← hJ b hb]
  funext j
  exact up2_ne (by omega)
/-! the small methods -/
def at' (r k : Nat) (M : gMem) : gMem := wI M r 6 (nI k)
def ntM (r p : Nat) (e : Int32) (k : Nat) (M : gMem) : gMem := if mI M r 7 = 0 then wI (wI M r 7 e) r 0 (mI M (p + 3) k) else M
theorem c_sign {Z g ps vs : Nat → Nat} {K r p o k : Nat} {M : gMem} (B : CB r p o M) (T : CT Z g ps vs K p M) (hK : K ≤ 400) (h6 : mI M r 6 = nI k) (hk : k ≤ K) : f_X6_sign M r = some (some (Z (g k)), M) := by
  obtain ⟨⟨t1, r1, -⟩, ⟨t2, r2, -, -, t3, l3, -⟩, -⟩ := B
  have q : inb (nI k) 401 := (inbN (by omega)).mpr (by omega)
  unfold f_X6_sign b_X6_sign_0
  rw [ck_t t1, dr_s r1, ck_t t2, dr_s r2, ck_t t3, h6, l3, ck_t q, nI_clamp (by omega), (T k hk).1]
theorem c_note {r p o k : Nat} {M : gMem} {e : Int32} (B : CB r p o M) (hK : k ≤ 400) (h6 : mI M r 6 = nI k) : f_X6_noteError M r e = some ((), ntM r p e k M) := by
  obtain ⟨⟨t1, r1, -⟩, ⟨t2, -, r2, -, -, -, t3, l3, -⟩, -, -, b5, b6⟩ := B
  have q : inb (nI k) 401 := (inbN (by omega)).mpr (by omega)
  unfold f_X6_noteError b_X6_noteError_0 b_X6_noteError_28 ntM
  rw [ck_t t1]
  by_cases c : mI M r 7 = 0
  · rw [if_pos c, if_pos c, lw_S, show mR (wI M r 7 e) r 1 = some p from r1, dr_S, ck_t (show mT (wI M r 7 e) p = 9 from t2), show mR (wI M r 7 e) p 3 = some (p + 3) from r2, dr_S, ck_t (show mT (wI M r 7 e) (p + 3) = 20 from t3), show mI (wI M r 7 e) r 6 = nI k from (wI_o (by omega)).trans h6, show mL (wI M r 7 e) (p + 3) = 401 from l3, ck_t q, nI_clamp (by omega), wI_o (by omega), lw_S]
  · rw [if_neg c, if_neg c]
theorem c_take {Z g ps vs : Nat → Nat} {K r p o k a : Nat} {M : gMem} (B : CB r p o M) (T : CT Z g ps vs K p M) (hZ : ∀ a b : Nat, a < 45 → b < 45 → Z a = Z b → a = b) (hg : ∀ i, g i < 45) (hK : K ≤ 400) (H : ∀ i, i ≤ K → g i < 42 → i + 1 ≤ K) (h6 : mI M r 6 = nI k) (hk : k ≤ K) (ha : a < 42) : f_X6_take M r (some (Z a)) = if g k = a then some ((1 : Int32), at' r (k + 1) M) else some ((0 : Int32), M) := by
  obtain ⟨⟨t1, r1, -⟩, ⟨t2, r2, -, -, t3, l3, -⟩, -⟩ := B
  unfold f_X6_take b_X6_take_0 b_X6_take_26
  rw [ck_t t1, h6]
  by_cases q0 : (400 : Int32) ≤ nI k
  · have hk4 : 400 ≤ k := (nI_leI (a := 400) (by omega) (by omega)).mp q0
    rw [if_pos q0, if_neg (fun c : g k = a => by have := H k hk (by omega); omega)]
  · have q : inb (nI k) 401 := (inbN (by omega)).mpr (by omega)
    rw [if_neg q0, dr_s r1, ck_t t2, dr_s r2, ck_t t3, l3, ck_t q, nI_clamp (by omega), (T k hk).1]
    by_cases c : g k = a
    · rw [if_pos (show some (Z (g k)) = some (Z a) by rw [c]), if_pos c, lw_S, nI_1]
      rfl
    · rw [if_neg (show ¬ some (Z (g k)) = some (Z a) from fun e => c (hZ _ _ (hg k) (by omega) (Option.some.inj e))), if_neg c]
/-- the place of a word among names; -1 -/
def fnd (M : gMem) (x : Nat) (w : Int64) : Int32 := match fndN (fun i => decide (mJ M (x + 1) i = w)) (mI M x 1).toNatClampNeg 0 with
  | some i => nI i
  | none => -1
theorem c_find {r p o x a : Nat} {M : gMem} {w : Int64} (B : CB r p o M) (hx : isX r x) (ha : a ≤ cap r x) (h1 : mI M x 1 = nI a) : f_X4_find M x w = some (fnd M x w, M) := by
  obtain ⟨t1, r1, t2, l2⟩ := B.2.2.1 x hx
  have hc : cap r x ≤ 8 := by unfold cap; split <;> omega
  unfold f_X4_find b_X4_find_0 lp_X4_find_2 fnd
  rw [h1, nI_clamp (by omega)]
  have key := lp_find (f := fun (q : gMem × Int32) => bb_X4_find_2 q.1 x w q.2) (fun j => (M, nI j)) (fun i => decide (mJ M (x + 1) i = w)) (fun j => (nI j, M)) ((-1 : Int32), M) a 0 (fun j j1 j2 => ?_) ?_
  · rw [show ((0 : Int32)) = nI 0 from rfl, key]
    cases fndN (fun i => decide (mJ M (x + 1) i = w)) a 0 <;> rfl
  · have q1 : ¬ nI a ≤ nI j := fun z => by have := (nI_leI (by omega) (by omega)).mp z; omega
    have q2 : inb (nI j) (cap r x) := (inbN (by omega)).mpr (by omega)
    show bb_X4_find_2 M x w (nI j) = _
    unfold bb_X4_find_2
    rw [ck_t t1, h1, if_neg q1, dr_s r1, ck_t t2, l2, ck_t q2, nI_clamp (by omega)]
    by_cases c : mJ M (x + 1) j = w
    · rw [if_pos ((lg_cmp_eq _ _).mpr c), if_pos (by simpa using c)]
      rfl
    · rw [if_neg (fun z => c ((lg_cmp_eq _ _).mp z)), if_neg (by simpa using c), nI_1]
  · show bb_X4_find_2 M x w (nI (0 + a)) = _
    have q1 : nI a ≤ nI (0 + a) := nI_le (by omega) (by omega)
    unfold bb_X4_find_2
    rw [ck_t t1, h1, if_pos q1]
    rfl
theorem fnd_b {M : gMem} {x a : Nat} {w : Int64} (h1 : mI M x 1 = nI a) (ha : a ≤ 8) : fnd M x w = -1 ∨ ∃ i, i < a ∧ fnd M x w = nI i := by
  unfold fnd
  rw [h1, nI_clamp (by omega)]
  cases c : fndN (fun i => decide (mJ M (x + 1) i = w)) a 0 with
  | none => exact .inl rfl
  | some i => exact .inr ⟨i, by have := (fndN_s _ _ _ c).2.1; omega, rfl⟩

