/-! ## Pure: the law's loop over the pacts -/
theorem ARo_g {b N a n len i : Nat} {vals : Nat → Nat → Int32} {M : gMem} (R : ARo b N a n len vals M) (hi : i < n) (hn : n < 1000) (hl : len < 1000) : ∃ r, inb (nI i) (mL M a) ∧ mR M a (nI i).toNatClampNeg = some r ∧ mT M r = 20 ∧ (∀ c, c < len → inb (nI c) (mL M r)) ∧ ∀ c, c < len → mI M r (nI c).toNatClampNeg = vals i c := by
  obtain ⟨r1, r2, r3, r4, r5⟩ := R
  obtain ⟨r, h1, h2, h3, h4, h5, h6⟩ := r5 i hi
  exact ⟨r, by rw [r2]; exact (inbN (by omega)).mpr hi, by rw [nI_clamp (by omega)]; exact h1, h2, fun c hc => by rw [h3]; exact (inbN (by omega)).mpr hc, fun c hc => by rw [nI_clamp (by omega)]; exact h6 c hc⟩
/-- what a tide did to a pact, as the law sees it -/
def PCT (B B' : Nat → Nat → Int32) (s : Nat) (hd : Nat → Nat) (ms : Nat → List Nat) (p : Nat) : Prop := hd p ≤ s ∧ pvA B' p 5 - pvA B p 5 = nI (hd p) ∧ (0 < hd p → ∃ j, j < (ms p).length ∧ fvA B ((ms p).getD j 0) 8 = 1) ∧ pvA B' p 6 = pvA B p 6 + (if hd p = 0 then 0 else 1) ∧ ¬ pvA B' p 4 < pvA B p 4 ∧ (pvA B p 0 = 1 → pvA B' p 4 = 0 ∧ hd p = 0) ∧ ∀ k, k < 4 → pvA B' p k = pvA B p k
def hcN (B : Nat → Nat → Int32) (m : List Nat) : Nat → Nat
  | 0 => 0
  | j + 1 => max (hcN B m j) (if fvA B (m.getD j 0) 8 = 1 then 1 else 0)
theorem hcN_2 {B : Nat → Nat → Int32} {m : List Nat} : ∀ j, hcN B m j < 2
  | 0 => Nat.zero_lt_succ 1
  | j + 1 => by
    have := hcN_2 (B := B) (m := m) j
    show max (hcN B m j) (if fvA B (m.getD j 0) 8 = 1 then 1 else 0) < 2
    split <;> omega
theorem hcN_1 {B : Nat → Nat → Int32} {m : List Nat} : ∀ n j, j < n → fvA B (m.getD j 0) 8 = 1 → hcN B m n ≠ 0
  | 0, j, hj, _ => absurd hj (Nat.not_lt_zero _)
  | n + 1, j, hj, h => by
    show max (hcN B m n) (if fvA B (m.getD n 0) 8 = 1 then 1 else 0) ≠ 0
    by_cases e : j = n
    · subst e; rw [if_pos h]; omega
    · have := hcN_1 n j (by omega) h
      omega
section LAW
variable {Z pg : Nat → Nat} {b o o' kb len F G np ng : Nat} {T : Nat → Nat} {M : gMem} {B B' : Nat → Nat → Int32} {ms : Nat → List Nat} {kd : Nat → Nat} {N0 N KC KN t x K a10 a12 : Nat} {M0 : gMem} {x4 x5 x7 x21 x23 : Int32}
theorem w_1464 (S : OB Z pg b o o' kb len F G np ng T B' M) (R : ARo b N a12 np 7 (pvA B) M) (np6 : np ≤ 6) {kc kn p : Nat} {x26 : Int32} (hp : p < np) (hk : kc + 4 ≤ 600086 ∧ kn + 24 ≤ 7301442) (hv : ∀ k, k < 4 → pvA B' p k = pvA B p k) : lp_L_law_1464 Z M kc kn (some x) (some b) x4 x5 (nI np) x7 (some a10) (some a12) x21 x23 x26 (nI p) 0 = some (.inl (M, kc + 4, kn + 24, x26, nI (p + 1))) := by
  obtain ⟨r, g1, g2, g3, g4, g5⟩ := ARo_g R hp (by omega) (by omega)
  have t28 := R.1
  unfold lp_L_law_1464
  refine lp_seq (f := fun (q : gMem × Nat × Nat × Int32) => bb_L_law_1464 Z q.1 q.2.1 q.2.2.1 (some x) (some b) x4 x5 (nI np) x7 (some a10) (some a12) x21 x23 x26 (nI p) q.2.2.2) (fun k => (M, kc + k, kn + 6 * k, nI k)) 0 4 (Nat.zero_le _) (fun k _ hk2 => ?_) ?_
  · show bb_L_law_1464 Z M (kc + k) (kn + 6 * k) (some x) (some b) x4 x5 (nI np) x7 (some a10) (some a12) x21 x23 x26 (nI p) (nI k) = some (.inl (M, kc + (k + 1), kn + 6 * (k + 1), nI (k + 1)))
    unfold bb_L_law_1464
    rw [if_neg (fun z => by have := (nI_leI (a := 4) (by omega) (by omega)).mp z; omega), dr_S, ck_t (ob_b S).2, ck_t ⟨by omega, by omega⟩, bx_s (ob_pact S hp (by omega)), dr_S, ck_t t28, ck_t g1, dr_s g2, ck_t g3, ck_t (g4 k (by omega)), g5 k (by omega), if_pos (hv k hk2), nI_1]
    rfl
  · show bb_L_law_1464 Z M (kc + 4) (kn + 6 * 4) (some x) (some b) x4 x5 (nI np) x7 (some a10) (some a12) x21 x23 x26 (nI p) (nI 4) = _
    unfold bb_L_law_1464
    rw [if_pos (by decide), nI_1]
    rfl
theorem w_1386 (S : OB Z pg b o o' kb len F G np ng T B' M) (R : ARo b N a12 np 7 (pvA B) M) (np6 : np ≤ 6) {kc kn p s : Nat} {hd : Nat → Nat} {x26 : Int32} (hp : p < np) (hk : kc + 7 ≤ 600086 ∧ kn + 42 ≤ 7301442) (hs : s ≤ 792) (P : PCT B B' s hd ms p) : ∃ kc' kn', b_L_law_1386 Z M kc kn (some x) (some b) x4 x5 (nI np) x7 (some a10) (some a12) x21 x23 x26 (nI p) (nI (hd p)) = some (.inl (M, kc', kn', x26, nI (p + 1))) ∧ kc' ≤ kc + 7 ∧ kn' ≤ kn + 42 := by
  obtain ⟨r, g1, g2, g3, g4, g5⟩ := ARo_g R hp (by omega) (by omega)
  have t28 := R.1
  obtain ⟨p1, p2, p3, p4, p5, p6, p7⟩ := P
  have q0 : inb (0 : Int32) (mL M r) := g4 0 (by omega)
  have q4 : inb (4 : Int32) (mL M r) := g4 4 (by omega)
  have q6 : inb (6 : Int32) (mL M r) := g4 6 (by omega)
  have v0 : mI M r ((0 : Int32)).toNatClampNeg = pvA B p 0 := g5 0 (by omega)
  have v4 : mI M r ((4 : Int32)).toNatClampNeg = pvA B p 4 := g5 4 (by omega)
  have v6 : mI M r ((6 : Int32)).toNatClampNeg = pvA B p 6 := g5 6 (by omega)
  have a6 : f_X11_pact M b (nI p) (6 : Int32) = some (.inr (pvA B' p 6), M) := ob_pact S hp (c := 6) (by omega)
  have a4 : f_X11_pact M b (nI p) (4 : Int32) = some (.inr (pvA B' p 4), M) := ob_pact S hp (c := 4) (by omega)
  have tb := (ob_b S).2
  have le0 : (nI (hd p) ≤ (0 : Int32)) ↔ hd p ≤ 0 := nI_leI (b := 0) (by omega) (by omega)
  have e0 : (nI (hd p) = (0 : Int32)) ↔ hd p = 0 := nI_eq (b := 0) (by omega) (by omega)
  have fin : ∃ kc' kn', b_L_law_1412 Z M (kc + 1) (kn + 6) (some x) (some b) x4 x5 (nI np) x7 (some a10) (some a12) x21 x23 x26 (nI p) (nI (hd p)) (pvA B' p 6) (pvA B p 6) (if hd p = 0 then 0 else 1) = some (.inl (M, kc', kn', x26, nI (p + 1))) ∧ kc' ≤ kc + 7 ∧ kn' ≤ kn + 42 := by
    unfold b_L_law_1412 b_L_law_1461
    rw [if_pos p4, dr_S, ck_t tb, ck_t ⟨by omega, by omega⟩, bx_s a4, dr_S, ck_t t28, ck_t g1, dr_s g2, ck_t g3, ck_t q4, v4, if_neg p5, ck_t g1, ck_t q0, v0]
    by_cases z : pvA B p 0 = 1
    · obtain ⟨z1, z2⟩ := p6 z
      rw [if_pos z, ck_t tb, ck_t ⟨by omega, by omega⟩, bx_s a4, if_pos z1, if_pos (e0.mpr z2), w_1464 S R np6 hp ⟨by omega, by omega⟩ p7]
      exact ⟨_, _, rfl, by omega, by omega⟩
    · rw [if_neg z, w_1464 S R np6 hp ⟨by omega, by omega⟩ p7]
      exact ⟨_, _, rfl, by omega, by omega⟩
  unfold b_L_law_1386
  rw [dr_S, ck_t tb, ck_t ⟨by omega, by omega⟩, bx_s a6, dr_S, ck_t t28, ck_t g1, dr_s g2, ck_t g3, ck_t q6, v6]
  by_cases z : hd p = 0
  · rw [if_pos z] at fin
    rw [if_pos (le0.mpr (by omega))]; exact fin
  · rw [if_neg z] at fin
    rw [if_neg (fun y => z (by have := le0.mp y; omega))]; exact fin
theorem w_1278s (S : OB Z pg b o o' kb len F G np ng T B' M) (R : ARo b N a12 np 7 (pvA B) M) (R10 : ARo b N a10 F 10 (fvA B) M) (Q : SHR b N0 x np K ms kd M) {kc kn p s : Nat} {hd : Nat → Nat} {x26 : Int32} (hp : p < np) (hk : kc + 8 ≤ 600086 ∧ kn + 48 ≤ 7301442) (hs : s ≤ 792) (P : PCT B B' s hd ms p) (hm : (ms p).length ≤ 8 ∧ ∀ k, k < (ms p).length → (ms p).getD k 0 < F) (hF : F ≤ 8) : ∃ kc' kn', bb_L_law_1278 Z M kc kn (some x) (some b) x4 x5 (nI np) x7 (some a10) (some a12) x21 x23 x26 (nI p) = some (.inl (M, kc', kn', x26 + nI (hd p), nI (p + 1))) ∧ kc' ≤ kc + 8 ∧ kn' ≤ kn + 48 := by
  have np6 : np ≤ 6 := Q.2.1.2.2.2.2
  obtain ⟨⟨s1, s2, s2', s3, s4, s5, s6⟩, ⟨t1, t2, t3, t4, t5⟩, u, v⟩ := Q
  obtain ⟨w, w1, w2, w3, w4, w5, w6⟩ := v p hp
  obtain ⟨r, g1, g2, g3, g4, g5⟩ := ARo_g R hp (by omega) (by omega)
  have t28 := R.1
  have tb := (ob_b S).2
  obtain ⟨kc', kn', e1, e2, e3⟩ := w_1386 (x := x) (x4 := x4) (x5 := x5) (x7 := x7) (a10 := a10) (x21 := x21) (x23 := x23) (kc := kc + 1) (kn := kn + 6) (x26 := x26 + nI (hd p)) S R np6 hp ⟨by omega, by omega⟩ hs P
  refine ⟨kc', kn', ?_, by omega, by omega⟩
  obtain ⟨p1, p2, p3, p4, p5, p6, p7⟩ := P
  unfold bb_L_law_1278
  have ew : mR M (x + 51) (nI p).toNatClampNeg = some w := by rw [nI_clamp (by omega)]; exact w1
  rw [if_neg (fun z => by have := (nI_leI (by omega) (by omega)).mp z; omega), dr_S, ck_t s1, dr_s s6, ck_t t3, ck_t (show inb (nI p) (mL M (x + 51)) by rw [t4]; exact (inbN (by omega)).mpr (by omega)), ew, dr_S, ck_t w2, w3]
  unfold lp_L_law_1305
  refine lp_seq (f := fun (q : gMem × Nat × Nat × Int32 × Int32) => bb_L_law_1305 Z q.1 q.2.1 q.2.2.1 (some x) (some b) x4 x5 (nI np) x7 (some a10) (some a12) x21 x23 x26 (nI p) q.2.2.2.1 (some w) (Int32.ofNat (ms p).length) q.2.2.2.2) (fun k => (M, kc, kn, nI (hcN B (ms p) k), nI k)) 0 (ms p).length (Nat.zero_le _) (fun k _ hk2 => ?_) ?_
  · show bb_L_law_1305 Z M kc kn (some x) (some b) x4 x5 (nI np) x7 (some a10) (some a12) x21 x23 x26 (nI p) (nI (hcN B (ms p) k)) (some w) (nI (ms p).length) (nI k) = some (.inl (M, kc, kn, nI (hcN B (ms p) (k + 1)), nI (k + 1)))
    have ev : mI M w (nI k).toNatClampNeg = nI ((ms p).getD k 0) := by rw [nI_clamp (by omega)]; exact w6 k hk2
    obtain ⟨r', h1, h2, h3, h4, h5⟩ := ARo_g R10 (hm.2 k hk2) (by omega) (by omega)
    have q8 : inb (8 : Int32) (mL M r') := h4 8 (by omega)
    have v8 : mI M r' ((8 : Int32)).toNatClampNeg = fvA B ((ms p).getD k 0) 8 := h5 8 (by omega)
    have hc := hcN_2 (B := B) (m := ms p) k
    have ee : hcN B (ms p) (k + 1) = max (hcN B (ms p) k) (if fvA B ((ms p).getD k 0) 8 = 1 then 1 else 0) := rfl
    unfold bb_L_law_1305 b_L_law_1338
    rw [if_neg (fun z => by have := (nI_leI (by omega) (by omega)).mp z; omega), dr_S, ck_t w2, ck_t (show inb (nI k) (mL M w) by rw [w3]; exact (inbN (by omega)).mpr hk2), ev, dr_S, ck_t R10.1, ck_t h1, dr_s h2, ck_t h3, ck_t q8, v8]
    by_cases z : fvA B ((ms p).getD k 0) 8 = 1
    · rw [if_pos z, ee, if_pos z, show (1 : Int32) = nI 1 from rfl, or_01 _ hc 1 (by decide), nI_add]
    · rw [if_neg z, ee, if_neg z, show (0 : Int32) = nI 0 from rfl, or_01 _ hc 0 (by decide), nI_1]
  · show bb_L_law_1305 Z M kc kn (some x) (some b) x4 x5 (nI np) x7 (some a10) (some a12) x21 x23 x26 (nI p) (nI (hcN B (ms p) (ms p).length)) (some w) (nI (ms p).length) (nI (ms p).length) = _
    have q5 : inb (5 : Int32) (mL M r) := g4 5 (by omega)
    have v5 : mI M r ((5 : Int32)).toNatClampNeg = pvA B p 5 := g5 5 (by omega)
    have a5 : f_X11_pact M b (nI p) (5 : Int32) = some (.inr (pvA B' p 5), M) := ob_pact S hp (c := 5) (by omega)
    have hc := hcN_2 (B := B) (m := ms p) (ms p).length
    unfold bb_L_law_1305
    rw [if_pos ((nI_leI (by omega) (by omega)).mpr (Nat.le_refl _)), dr_S, ck_t tb, ck_t ⟨by omega, by omega⟩, bx_s a5, dr_S, ck_t t28, ck_t g1, dr_s g2, ck_t g3, ck_t q5, v5, p2, if_neg (nI_pos (by omega))]
    have le0 : (nI (hd p) ≤ (0 : Int32)) ↔ hd p ≤ 0 := nI_leI (b := 0) (by omega) (by omega)
    have eh : (nI (hcN B (ms p) (ms p).length) = (0 : Int32)) ↔ hcN B (ms p) (ms p).length = 0 := nI_eq (b := 0) (by omega) (by omega)
    by_cases z : hd p = 0
    · rw [if_pos (le0.mpr (by omega)), e1]; rfl
    · obtain ⟨j, j1, j2⟩ := p3 (by omega)
      have h0 := hcN_1 (ms p).length j j1 j2
      rw [if_neg (fun y => z (by have := le0.mp y; omega)), if_neg (fun y => h0 (eh.mp y)), e1]; rfl
theorem w_1278 (S : OB Z pg b o o' (kb + 792) len F G np ng T B' M) (I : INV B' (kb + 792) G np ms) (R : ARo b N a12 np 7 (pvA B) M) (R10 : ARo b N a10 F 10 (fvA B) M) (Q : SHR b N0 x np K ms kd M) (hFW : FW b N0 M0 M) (hK : KC ≤ 600086 ∧ KN ≤ 7301442) {kc kn s : Nat} {hd : Nat → Nat} {r : Int32} (hk : kc + 48 ≤ KC ∧ kn + 288 ≤ KN) (hs : s ≤ 792) (P : ∀ p, p < np → PCT B B' s hd ms p) (hm : ∀ p, p < np → (ms p).length ≤ 8 ∧ ∀ k, k < (ms p).length → (ms p).getD k 0 < F) (hF : F ≤ 8) (hr : np = 0 → (∀ j, j < K → ¬ (kd j = 3 ∨ kd j = 7)) → r = 0) : RND Z pg b o o' (kb + 792) len F G np ng T ms N0 KC KN t M0 (lp_L_law_1278 Z M kc kn (some x) (some b) x4 x5 (nI np) (nI t) (some a10) (some a12) r (nI s) 0 0) := by
  have np6 : np ≤ 6 := Q.2.1.2.2.2.2
  have sm : ∀ p, p ≤ np → smN hd p ≤ p * s := by
    intro p
    induction p with
    | zero => intro _; exact Nat.zero_le _
    | succ p ih =>
      intro h
      have := ih (by omega)
      have h2 := (P p (by omega)).1
      rw [Nat.succ_mul]
      show smN hd p + hd p ≤ _
      omega
  obtain ⟨q, ⟨kc', kn', rfl, f1, f2⟩, hlp⟩ := lp_ex (f := fun (q : gMem × Nat × Nat × Int32 × Int32) => bb_L_law_1278 Z q.1 q.2.1 q.2.2.1 (some x) (some b) x4 x5 (nI np) (nI t) (some a10) (some a12) r (nI s) q.2.2.2.1 q.2.2.2.2)
    (fun p q => ∃ kc' kn', q = (M, kc', kn', nI (smN hd p), nI p) ∧ kc' ≤ kc + 8 * p ∧ kn' ≤ kn + 48 * p) np (fun p q hp hq => by
      obtain ⟨kc', kn', rfl, f1, f2⟩ := hq
      obtain ⟨kc2, kn2, e1, e2, e3⟩ := w_1278s (x4 := x4) (x5 := x5) (x7 := nI t) (x21 := r) (x23 := nI s) (kc := kc') (kn := kn') (x26 := nI (smN hd p)) S R R10 Q hp ⟨by omega, by omega⟩ hs (P p hp) (hm p hp) hF
      exact ⟨_, e1, kc2, kn2, by rw [nI_add]; rfl, by omega, by omega⟩) np 0 (M, kc, kn, nI 0, nI 0) (by omega) ⟨kc, kn, rfl, Nat.le_refl _, Nat.le_refl _⟩
  have W := w_1509 (x4 := x4) (x5 := x5) (t := t) (kc := kc') (kn := kn') (s := s) (hid := smN hd np) (r := r) S I Q hFW hK ⟨by omega, by omega⟩ hs (sm np (Nat.le_refl _)) hr
  unfold lp_L_law_1278
  have hlp' : lp (fun (q : gMem × Nat × Nat × Int32 × Int32) => bb_L_law_1278 Z q.1 q.2.1 q.2.2.1 (some x) (some b) x4 x5 (nI np) (nI t) (some a10) (some a12) r (nI s) q.2.2.2.1 q.2.2.2.2) (M, kc, kn, (0 : Int32), (0 : Int32)) = _ := hlp
  rw [hlp']
  have key : lp (fun (q : gMem × Nat × Nat × Int32 × Int32) => bb_L_law_1278 Z q.1 q.2.1 q.2.2.1 (some x) (some b) x4 x5 (nI np) (nI t) (some a10) (some a12) r (nI s) q.2.2.2.1 q.2.2.2.2) (M, kc', kn', nI (smN hd np), nI np) = lp_L_law_1509 Z M kc' kn' (some x) (some b) x4 x5 (nI np) (nI t) r (nI s) (nI (smN hd np)) 0 0 := by
    refine lp_oI ?_
    show bb_L_law_1278 Z M kc' kn' (some x) (some b) x4 x5 (nI np) (nI t) (some a10) (some a12) r (nI s) (nI (smN hd np)) (nI np) = _
    unfold bb_L_law_1278
    rw [if_pos ((nI_leI (by omega) (by omega)).mpr (Nat.le_refl _))]
  rw [key]
  exact W
end LAW
