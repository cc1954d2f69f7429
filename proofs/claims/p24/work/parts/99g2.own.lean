/-! ## Pure: the law's own rows beside the object -/
/-- below N all is as it was, but for the object at b -/
def FW (b N : Nat) (M M' : gMem) : Prop := (∀ c, c < N → (c < b ∨ b + 178 ≤ c) → mT M' c = mT M c ∧ mL M' c = mL M c ∧ mI M' c = mI M c ∧ mR M' c = mR M c) ∧ mN M ≤ mN M'
theorem FW_r (b N : Nat) (M : gMem) : FW b N M M := ⟨fun _ _ _ => ⟨rfl, rfl, rfl, rfl⟩, Nat.le_refl _⟩
theorem FW_t {b N : Nat} {M X Y : gMem} (h : FW b N M X) (k : FW b N X Y) : FW b N M Y := ⟨fun c hc h2 => by
    obtain ⟨a1, a2, a3, a4⟩ := h.1 c hc h2
    obtain ⟨b1, b2, b3, b4⟩ := k.1 c hc h2
    exact ⟨b1.trans a1, b2.trans a2, b3.trans a3, b4.trans a4⟩, Nat.le_trans h.2 k.2⟩
theorem FW_lo {b N N' : Nat} {M X : gMem} (h : FW b N M X) (hn : N' ≤ N) : FW b N' M X := ⟨fun c hc h2 => h.1 c (by omega) h2, h.2⟩
theorem FW_c {b N : Nat} {M X : gMem} (h : CFr b M X) : FW b N M X := by
  obtain ⟨h1, h2, h3, h4, h5⟩ := h
  exact ⟨fun c _ hc => ⟨by rw [h1], by rw [h2], (h5 c (by omega)).1, (h5 c (by omega)).2⟩, by rw [h4]; exact Nat.le_refl _⟩
theorem FW_n {b N t n : Nat} {M : gMem} (h : N ≤ mN M) : FW b N M (nW M t n) := ⟨fun c hc _ => by
    have := SM5_n (M := M) (t := t) (n := n) (c := c) (by omega)
    exact ⟨this.1, this.2.1, this.2.2.1, this.2.2.2.1⟩, by show mN M ≤ mN M + 1; omega⟩
theorem FW_m {b N n k : Nat} {M : gMem} (h : N ≤ mN M) : FW b N M (mnM M n k) := ⟨fun c hc _ => by
    have := (mnM_f (M := M) (n := n) (k := k) rfl).2.1 c (by omega)
    exact ⟨this.1, this.2.1, this.2.2.1, this.2.2.2.1⟩, by rw [(mnM_f (M := M) (n := n) (k := k) rfl).1]; omega⟩
theorem FW_I {b N a k : Nat} {v : Int32} {M : gMem} (h : N ≤ a) : FW b N M (wI M a k v) := ⟨fun c hc _ => by
    have := SM5_I (M := M) (a := a) (j := k) (v := v) (c := c) (by omega)
    exact ⟨this.1, this.2.1, this.2.2.1, this.2.2.2.1⟩, Nat.le_refl _⟩
def RWo (b N a len : Nat) (vals : Nat → Int32) (M : gMem) : Prop := mT M a = 20 ∧ mL M a = len ∧ (a < b ∨ b + 178 ≤ a) ∧ a < N ∧ ∀ c, c < len → mI M a c = vals c
def ARo (b N a n len : Nat) (vals : Nat → Nat → Int32) (M : gMem) : Prop := mT M a = 28 ∧ mL M a = n ∧ (a < b ∨ b + 178 ≤ a) ∧ a < N ∧ ∀ i, i < n → ∃ r, mR M a i = some r ∧ RWo b N r len (vals i) M
theorem RWo_f {b N N' a len : Nat} {vals : Nat → Int32} {M M' : gMem} (R : RWo b N a len vals M) (h : FW b N' M M') (hN : N ≤ N') : RWo b N a len vals M' := by
  obtain ⟨r1, r2, r3, r4, r5⟩ := R
  obtain ⟨a1, a2, a3, a4⟩ := h.1 a (by omega) r3
  exact ⟨a1.trans r1, a2.trans r2, r3, r4, fun c hc => by rw [a3]; exact r5 c hc⟩
theorem ARo_f {b N N' a n len : Nat} {vals : Nat → Nat → Int32} {M M' : gMem} (R : ARo b N a n len vals M) (h : FW b N' M M') (hN : N ≤ N') : ARo b N a n len vals M' := by
  obtain ⟨r1, r2, r3, r4, r5⟩ := R
  obtain ⟨a1, a2, a3, a4⟩ := h.1 a (by omega) r3
  exact ⟨a1.trans r1, a2.trans r2, r3, r4, fun i hi => by
    obtain ⟨r, h1, h2⟩ := r5 i hi
    exact ⟨r, by rw [a4]; exact h1, RWo_f h2 h hN⟩⟩
theorem RWo_N {b N N' a len : Nat} {vals : Nat → Int32} {M : gMem} (R : RWo b N a len vals M) (hN : N ≤ N') : RWo b N' a len vals M := ⟨R.1, R.2.1, R.2.2.1, Nat.lt_of_lt_of_le R.2.2.2.1 hN, R.2.2.2.2⟩
theorem ARo_N {b N N' a n len : Nat} {vals : Nat → Nat → Int32} {M : gMem} (R : ARo b N a n len vals M) (hN : N ≤ N') : ARo b N' a n len vals M := ⟨R.1, R.2.1, R.2.2.1, Nat.lt_of_lt_of_le R.2.2.2.1 hN, fun i hi => by
  obtain ⟨r, h1, h2⟩ := R.2.2.2.2 i hi
  exact ⟨r, h1, RWo_N h2 hN⟩⟩
section OBF
variable {Z pg : Nat → Nat} {b o o' kb len F G np ng : Nat} {T : Nat → Nat} {M : gMem} {B : Nat → Nat → Int32}
theorem ob_b (S : OB Z pg b o o' kb len F G np ng T B M) : b + 178 ≤ mN M ∧ mT M b = 10 := ⟨S.1.1.2.2.2.2, S.1.1.1.1⟩
theorem ob_n {t n : Nat} (S : OB Z pg b o o' kb len F G np ng T B M) : OB Z pg b o o' kb len F G np ng T B (nW M t n) := ob_fr S (fun a ha => by
  have hb := (ob_b S).1
  have := SM5_n (M := M) (t := t) (n := n) (c := a) (by omega)
  exact ⟨this.1, this.2.1, this.2.2.1, this.2.2.2.1⟩) (by show mN M ≤ mN M + 1; omega)
theorem ob_m {n k : Nat} (S : OB Z pg b o o' kb len F G np ng T B M) : OB Z pg b o o' kb len F G np ng T B (mnM M n k) := ob_fr S (fun a ha => by
  have hb := (ob_b S).1
  have := (mnM_f (M := M) (n := n) (k := k) rfl).2.1 a (by omega)
  exact ⟨this.1, this.2.1, this.2.2.1, this.2.2.2.1⟩) (by rw [(mnM_f (M := M) (n := n) (k := k) rfl).1]; omega)
theorem ob_I {a k : Nat} {v : Int32} (S : OB Z pg b o o' kb len F G np ng T B M) (h : b + 178 ≤ a) : OB Z pg b o o' kb len F G np ng T B (wI M a k v) := ob_fr S (fun c hc => by
  have := SM5_I (M := M) (a := a) (j := k) (v := v) (c := c) (by omega)
  exact ⟨this.1, this.2.1, this.2.2.1, this.2.2.2.1⟩) (Nat.le_refl _)
end OBF
/-- what holds of the object between the law's tides -/
def INV (B : Nat → Nat → Int32) (kb G np : Nat) (ms : Nat → List Nat) : Prop := (∀ g, g < G → ∃ r, r ≤ 8 ∧ B (18 + 2 * g) 0 = nI r) ∧ DSt B np ∧ ∀ p, p < np → (∃ a, a ≤ kb ∧ B (74 + 2 * p) 5 = nI a) ∧ (0 ≤ B (74 + 2 * p) 0 → B (74 + 2 * p) 5 = 0) ∧ B (74 + 2 * p) 3 = nI (ms p).length ∧ (ms p).length ≤ 8 ∧ ∀ k, k < (ms p).length → B (75 + 2 * p) k = nI ((ms p).getD k 0)
/-- the shore by hand, as far as the law reads it behind the text -/
def SHR (b N x np K : Nat) (ms : Nat → List Nat) (kd : Nat → Nat) (M : gMem) : Prop := (mT M x = 11 ∧ x + 52 ≤ b ∧ x + 52 ≤ N ∧ mI M x 5 = nI K ∧ K ≤ 8 ∧ mR M x 4 = some (x + 19) ∧ mR M x 7 = some (x + 51)) ∧ (mT M (x + 19) = 28 ∧ mL M (x + 19) = 24 ∧ mT M (x + 51) = 28 ∧ mL M (x + 51) = 6 ∧ np ≤ 6) ∧
  (∀ j, j < K → ∃ w, mR M (x + 19) j = some w ∧ mT M w = 20 ∧ mL M w = 7 ∧ w < b ∧ w < N ∧ kd j < 8 ∧ mI M w 2 = nI (kd j)) ∧ ∀ p, p < np → ∃ w, mR M (x + 51) p = some w ∧ mT M w = 20 ∧ mL M w = (ms p).length ∧ w < b ∧ w < N ∧ ∀ k, k < (ms p).length → mI M w k = nI ((ms p).getD k 0)
theorem SHR_f {b N N' x np K : Nat} {ms : Nat → List Nat} {kd : Nat → Nat} {M M' : gMem} (S : SHR b N x np K ms kd M) (h : FW b N' M M') (hN : N ≤ N') : SHR b N x np K ms kd M' := by
  obtain ⟨⟨s1, s2, s2', s3, s4, s5, s6⟩, ⟨t1, t2, t3, t4, t5⟩, u, v⟩ := S
  obtain ⟨a1, a2, a3, a4⟩ := h.1 x (by omega) (by omega)
  obtain ⟨b1, b2, b3, b4⟩ := h.1 (x + 19) (by omega) (by omega)
  obtain ⟨c1, c2, c3, c4⟩ := h.1 (x + 51) (by omega) (by omega)
  refine ⟨⟨a1.trans s1, s2, s2', by rw [a3]; exact s3, s4, by rw [a4]; exact s5, by rw [a4]; exact s6⟩, ⟨b1.trans t1, b2.trans t2, c1.trans t3, c2.trans t4, t5⟩, fun j hj => ?_, fun p hp => ?_⟩
  · obtain ⟨w, w1, w2, w3, w4, w5, w6, w7⟩ := u j hj
    obtain ⟨d1, d2, d3, d4⟩ := h.1 w (by omega) (by omega)
    exact ⟨w, by rw [b4]; exact w1, d1.trans w2, d2.trans w3, w4, w5, w6, by rw [d3]; exact w7⟩
  · obtain ⟨w, w1, w2, w3, w4, w5, w6⟩ := v p hp
    obtain ⟨d1, d2, d3, d4⟩ := h.1 w (by omega) (by omega)
    exact ⟨w, by rw [c4]; exact w1, d1.trans w2, d2.trans w3, w4, w5, fun k hk => by rw [d3]; exact w6 k hk⟩
/-- one round of the law's loop went well -/
def RND (Z pg : Nat → Nat) (b o o' kb len F G np ng : Nat) (T : Nat → Nat) (ms : Nat → List Nat) (N0 KC KN t : Nat) (M0 : gMem) (q : Option ((gMem × Nat × Nat × Int32) ⊕ ((Nat ⊕ Int32) × gMem))) : Prop := ∃ M' kc' kn' B', q = some (.inl (M', kc', kn', nI (t + 1))) ∧ kc' ≤ KC ∧ kn' ≤ KN ∧ OB Z pg b o o' kb len F G np ng T B' M' ∧ INV B' kb G np ms ∧ FW b N0 M0 M'
theorem or_01 : ∀ a, a < 2 → ∀ c, c < 2 → nI a ||| nI c = nI (max a c) := by decide +kernel
def akN (kd : Nat → Nat) : Nat → Nat
  | 0 => 0
  | j + 1 => max (akN kd j) (if kd j = 3 ∨ kd j = 7 then 1 else 0)
theorem akN_2 {kd : Nat → Nat} : ∀ j, akN kd j < 2
  | 0 => Nat.zero_lt_succ 1
  | j + 1 => by
    have := akN_2 (kd := kd) j
    show max (akN kd j) (if kd j = 3 ∨ kd j = 7 then 1 else 0) < 2
    split <;> omega
theorem akN_0 {kd : Nat → Nat} : ∀ j, akN kd j = 0 → ∀ i, i < j → ¬ (kd i = 3 ∨ kd i = 7)
  | 0, _, i, hi => absurd hi (Nat.not_lt_zero _)
  | j + 1, h, i, hi => by
    have h : max (akN kd j) (if kd j = 3 ∨ kd j = 7 then 1 else 0) = 0 := h
    by_cases e : i = j
    · subst e
      intro z
      rw [if_pos z] at h; omega
    · exact akN_0 j (by omega) i (by omega)
section LAW
variable {Z pg : Nat → Nat} {b o o' kb len F G np ng : Nat} {T : Nat → Nat} {M : gMem} {B : Nat → Nat → Int32} {ms : Nat → List Nat} {kd : Nat → Nat} {N0 KC KN t x K : Nat} {M0 : gMem} {x4 x5 : Int32}
/-- the last loop: does a go ask who cheats -/
theorem w_1509 (S : OB Z pg b o o' kb len F G np ng T B M) (I : INV B kb G np ms) (R : SHR b N0 x np K ms kd M) (hF : FW b N0 M0 M) (hK : KC ≤ 600086 ∧ KN ≤ 7301442) {kc kn : Nat} (hk : kc ≤ KC ∧ kn ≤ KN) {s hid : Nat} {r : Int32} (hs : s ≤ 792) (hh : hid ≤ np * s) (hr : np = 0 → (∀ j, j < K → ¬ (kd j = 3 ∨ kd j = 7)) → r = 0) : RND Z pg b o o' kb len F G np ng T ms N0 KC KN t M0 (lp_L_law_1509 Z M kc kn (some x) (some b) x4 x5 (nI np) (nI t) r (nI s) (nI hid) 0 0) := by
  have np6 : np ≤ 6 := R.2.1.2.2.2.2
  have h8 : np * s ≤ 6 * 792 := Nat.mul_le_mul np6 hs
  obtain ⟨⟨s1, s2, s2', s3, s4, s5, s6⟩, ⟨t1, t2, t3, t4, t5⟩, u, v⟩ := R
  refine ⟨M, kc, kn, B, ?_, hk.1, hk.2, S, I, hF⟩
  have fin : b_L_law_1576 Z M kc kn (some x) (some b) x4 x5 (nI np) (nI t) (nI s) (nI hid) = some (.inl (M, kc, kn, nI (t + 1))) := by
    unfold b_L_law_1576
    rw [nI_mul, if_pos ((nI_leI (by omega) (by omega)).mpr hh), nI_1]
  unfold lp_L_law_1509
  refine lp_seq (f := fun (q : gMem × Nat × Nat × Int32 × Int32) => bb_L_law_1509 Z q.1 q.2.1 q.2.2.1 (some x) (some b) x4 x5 (nI np) (nI t) r (nI s) (nI hid) q.2.2.2.1 q.2.2.2.2) (fun j => (M, kc, kn, nI (akN kd j), nI j)) 0 K (Nat.zero_le _) (fun j _ hj => ?_) ?_
  · obtain ⟨w, w1, w2, w3, w4, w5, w6, w7⟩ := u j hj
    show bb_L_law_1509 Z M kc kn (some x) (some b) x4 x5 (nI np) (nI t) r (nI s) (nI hid) (nI (akN kd j)) (nI j) = some (.inl (M, kc, kn, nI (akN kd (j + 1)), nI (j + 1)))
    have ib : inb (2 : Int32) (mL M w) := by rw [w3]; decide
    have ij : inb (nI j) (mL M (x + 19)) := by rw [t2]; exact (inbN (by omega)).mpr (by omega)
    have e3 : (nI (kd j) = (3 : Int32)) ↔ kd j = 3 := nI_eq (b := 3) (by omega) (by omega)
    have e7 : (nI (kd j) = (7 : Int32)) ↔ kd j = 7 := nI_eq (b := 7) (by omega) (by omega)
    have ak := akN_2 (kd := kd) j
    have ee : akN kd (j + 1) = max (akN kd j) (if kd j = 3 ∨ kd j = 7 then 1 else 0) := rfl
    have e2 : mI M w ((2 : Int32)).toNatClampNeg = nI (kd j) := w7
    have ew : mR M (x + 19) (nI j).toNatClampNeg = some w := by rw [nI_clamp (by omega)]; exact w1
    unfold bb_L_law_1509 b_L_law_1547 b_L_law_1552
    rw [dr_S, ck_t s1, s3, if_neg (fun z => by have := (nI_leI (by omega) (by omega)).mp z; omega), dr_s s5, ck_t t1, ck_t ij, dr_s ew, ck_t w2, ck_t ib, e2]
    by_cases a3 : kd j = 3
    · rw [if_pos (e3.mpr a3), ee, if_pos (.inl a3), show (1 : Int32) = nI 1 from rfl, or_01 _ ak 1 (by decide), nI_add]
    · rw [if_neg (fun z => a3 (e3.mp z)), ck_t ij, ck_t ib]
      by_cases a7 : kd j = 7
      · rw [if_pos (e7.mpr a7), ee, if_pos (.inr a7), show (1 : Int32) = nI 1 from rfl, or_01 _ ak 1 (by decide), nI_add]
      · rw [if_neg (fun z => a7 (e7.mp z)), ee, if_neg (by omega), show (0 : Int32) = nI 0 from rfl, or_01 _ ak 0 (by decide), nI_1]
  · show bb_L_law_1509 Z M kc kn (some x) (some b) x4 x5 (nI np) (nI t) r (nI s) (nI hid) (nI (akN kd K)) (nI K) = _
    unfold bb_L_law_1509
    rw [dr_S, ck_t s1, s3, if_pos ((nI_leI (by omega) (by omega)).mpr (Nat.le_refl _)), fin]
    have z0 : (nI np = (0 : Int32)) ↔ np = 0 := nI_eq (b := 0) (by omega) (by omega)
    have ak := akN_2 (kd := kd) K
    have z1 : (nI (akN kd K) = (0 : Int32)) ↔ akN kd K = 0 := nI_eq (b := 0) (by omega) (by omega)
    by_cases a : np = 0
    · rw [if_pos (z0.mpr a)]
      by_cases c : akN kd K = 0
      · rw [if_pos (z1.mpr c), if_pos (hr a (akN_0 K c))]; rfl
      · rw [if_neg (fun z => c (z1.mp z))]; rfl
    · rw [if_neg (fun z => a (z0.mp z))]; rfl
end LAW
