/-! ## Pure: the law keeps what it was told, and the lots -/
/-- an array of rows, filled up to place j of row i -/
def AFo (b a n len : Nat) (vals : Nat → Nat → Int32) (i j : Nat) (M : gMem) : Prop := mT M a = 28 ∧ mL M a = n ∧ b + 178 ≤ a ∧ a + 1 + n ≤ mN M ∧ ∀ k, k < n → mR M a k = some (a + 1 + k) ∧ mT M (a + 1 + k) = 20 ∧ mL M (a + 1 + k) = len ∧ ∀ c, c < len → (k < i ∨ (k = i ∧ c < j)) → mI M (a + 1 + k) c = vals k c
theorem AFo_0 {b n len : Nat} {vals : Nat → Nat → Int32} {M : gMem} (h : b + 178 ≤ mN M) : AFo b (mN M) n len vals 0 0 (mnM M n len) := by
  obtain ⟨h1, h2, h3, h4, h5⟩ := mnM_f (M := M) (n := n) (k := len) rfl
  exact ⟨h3, h4, h, by omega, fun k hk => ⟨(h5 k hk).1, (h5 k hk).2.1, (h5 k hk).2.2.1, fun c _ hc => by omega⟩⟩
theorem AFo_s {b a n len i j : Nat} {vals : Nat → Nat → Int32} {M : gMem} (A : AFo b a n len vals i j M) (hi : i < n) : AFo b a n len vals i (j + 1) (wI M (a + 1 + i) j (vals i j)) := by
  obtain ⟨h1, h2, h3, h4, h5⟩ := A
  refine ⟨h1, h2, h3, h4, fun k hk => ?_⟩
  obtain ⟨g1, g2, g3, g4⟩ := h5 k hk
  refine ⟨g1, g2, g3, fun c hc hc2 => ?_⟩
  by_cases e : k = i ∧ c = j
  · obtain ⟨e1, e2⟩ := e
    subst e1; subst e2
    exact wI_e _ _ _ _
  · rw [wI_o (by omega)]
    exact g4 c hc (by omega)
theorem AFo_n {b a n len i : Nat} {vals : Nat → Nat → Int32} {M : gMem} (A : AFo b a n len vals i len M) : AFo b a n len vals (i + 1) 0 M := by
  obtain ⟨h1, h2, h3, h4, h5⟩ := A
  refine ⟨h1, h2, h3, h4, fun k hk => ?_⟩
  obtain ⟨g1, g2, g3, g4⟩ := h5 k hk
  exact ⟨g1, g2, g3, fun c hc hc2 => g4 c hc (by omega)⟩
theorem AFo_d {b a n len : Nat} {vals : Nat → Nat → Int32} {M : gMem} (A : AFo b a n len vals n 0 M) : ARo b (a + 1 + n) a n len vals M := by
  obtain ⟨h1, h2, h3, h4, h5⟩ := A
  refine ⟨h1, h2, .inr h3, by omega, fun k hk => ?_⟩
  obtain ⟨g1, g2, g3, g4⟩ := h5 k hk
  exact ⟨_, g1, g2, g3, .inr (by omega), by omega, fun c hc => g4 c hc (.inl hk)⟩
theorem AFo_g {b a n len i j : Nat} {vals : Nat → Nat → Int32} {M : gMem} (A : AFo b a n len vals i j M) (hi : i < n) (hn : n < 1000) : mT M a = 28 ∧ inb (nI i) (mL M a) ∧ mR M a (nI i).toNatClampNeg = some (a + 1 + i) ∧ mT M (a + 1 + i) = 20 ∧ mL M (a + 1 + i) = len ∧ b + 178 ≤ a := by
  obtain ⟨h1, h2, h3, h4, h5⟩ := A
  obtain ⟨g1, g2, g3, g4⟩ := h5 i hi
  exact ⟨h1, by rw [h2]; exact (inbN (by omega)).mpr hi, by rw [nI_clamp (by omega)]; exact g1, g2, g3, h3⟩
section LAW
variable {Z pg : Nat → Nat} {b o o' kb len F G np ng : Nat} {T : Nat → Nat} {M : gMem} {B B' : Nat → Nat → Int32} {ms : Nat → List Nat} {kd : Nat → Nat} {N0 N KC KN t x K a10 a11 a12 a15 a18 a24 i : Nat} {M0 : gMem} {x8 x9 : Int32} {c : Nat → Nat}
set_option maxRecDepth 50000 in
theorem w_386 (S : OB Z pg b o o' kb len F G np ng T B M) (I : INV B kb G np ms) (R : ARo b N a12 np 7 (pvA B) M) (R10 : ARo b N a10 F 10 (fvA B) M) (R11 : ARo b N a11 G 9 (gvA B) M) (A15 : mT M a15 = 29 ∧ mL M a15 = F) (V15 : ∀ j, mI M a15 j = 0) (hN15 : N ≤ a15) (hb15 : b + 178 ≤ a15) (hNm : N ≤ mN M) (hN0 : N0 ≤ N) (Q : SHR b N0 x np K ms kd M) (hFW : FW b N0 M0 M) (hK : KC ≤ 600086 ∧ KN ≤ 7301442) (hkb : kb < 2 ^ 30) {kc kn who : Nat} (hk : kc + 835 ≤ KC ∧ kn + 4972 ≤ KN) (hw : who < F) (hG1 : 0 < G) (hm : ∀ p, p < np → (ms p).length ≤ 8 ∧ ∀ k, k < (ms p).length → (ms p).getD k 0 < F) (hr : np = 0 → (∀ j, j < K → ¬ (kd j = 3 ∨ kd j = 7)) → ∀ i, i < len → ¬ gSw (pg i) = 7) : RND Z pg b o o' (kb + 792) len F G np ng T ms N0 KC KN t M0 (lp_L_law_386 Z M kc kn (some x) (some b) (nI F) (nI G) (nI np) (nI t) x8 (nI who) (some a10) (some a11) (some a12) (B 0 0) (cvA B F G 0 6) (some a15) 0) := by
  have hF : F ≤ 8 := (ob_W S).1.2.2.2.1
  obtain ⟨q, ⟨M', kc', kn', rfl, f1, f2, f3, f4, f5, f6⟩, hlp⟩ := lp_ex (f := fun (q : gMem × Nat × Nat × Int32) => bb_L_law_386 Z q.1 q.2.1 q.2.2.1 (some x) (some b) (nI F) (nI G) (nI np) (nI t) x8 (nI who) (some a10) (some a11) (some a12) (B 0 0) (cvA B F G 0 6) (some a15) q.2.2.2)
    (fun k q => ∃ M' kc' kn', q = (M', kc', kn', nI k) ∧ kc' ≤ kc + 4 * k ∧ kn' ≤ kn + 24 * k ∧ OB Z pg b o o' kb len F G np ng T B M' ∧ FW b N M M' ∧ (mT M' a15 = 29 ∧ mL M' a15 = F) ∧ ∀ j, k ≤ j → j < F → mI M' a15 (ltA F (B 0 1) j) = 0) F (fun k q hk2 hq => by
      obtain ⟨M', kc', kn', rfl, f1, f2, f3, f4, f5, f6⟩ := hq
      have lt1 : ltA F (B 0 1) k < F := ltA_lt (by omega) hk2
      obtain ⟨r, hr'⟩ : ∃ r, r = ltA F (B 0 1) k := ⟨_, rfl⟩
      obtain ⟨X1, d1, S1, C1⟩ := ob_lot f3 hk2
      obtain ⟨X2, d2, S2, C2⟩ := ob_lot S1 hk2
      obtain ⟨X3, d3, S3, C3⟩ := ob_lot S2 hk2
      obtain ⟨X4, d4, S4, C4⟩ := ob_lot S3 hk2
      rw [← hr'] at d1 d2 d3 d4 lt1
      have t1 := CFr_a C1 hb15
      have t2 := CFr_a C2 hb15
      have t3 := CFr_a C3 hb15
      have t4 := CFr_a C4 hb15
      have A3 : mT X3 a15 = 29 ∧ mL X3 a15 = F := ⟨t3.1.trans (t2.1.trans (t1.1.trans f5.1)), t3.2.1.trans (t2.2.1.trans (t1.2.1.trans f5.2))⟩
      have A4 : mT X4 a15 = 29 ∧ mL X4 a15 = F := ⟨t4.1.trans A3.1, t4.2.1.trans A3.2⟩
      have v3 : mI X3 a15 (nI r).toNatClampNeg = 0 := by rw [nI_clamp (by omega), t3.2.2, t2.2.2, t1.2.2, hr']; exact f6 k (Nat.le_refl _) hk2
      have ir3 : inb (nI r) (mL X3 a15) := by rw [A3.2]; exact (inbN (by omega)).mpr lt1
      have ir4 : inb (nI r) (mL X4 a15) := by rw [A4.2]; exact (inbN (by omega)).mpr lt1
      refine ⟨(wI X4 a15 (nI r).toNatClampNeg (vp_nar .boolean (1 : Int32)), kc' + 1 + 1 + 1 + 1, kn' + 6 + 6 + 6 + 6, nI k + 1), ?_, wI X4 a15 (nI r).toNatClampNeg (vp_nar .boolean (1 : Int32)), kc' + 1 + 1 + 1 + 1, kn' + 6 + 6 + 6 + 6, by rw [nI_1], by omega, by omega, ob_I S4 hb15, FW_t f4 (FW_t (FW_c C1) (FW_t (FW_c C2) (FW_t (FW_c C3) (FW_t (FW_c C4) (FW_I hN15))))), A4, fun j j1 j2 => ?_⟩
      · show bb_L_law_386 Z M' kc' kn' (some x) (some b) (nI F) (nI G) (nI np) (nI t) x8 (nI who) (some a10) (some a11) (some a12) (B 0 0) (cvA B F G 0 6) (some a15) (nI k) = _
        unfold bb_L_law_386
        rw [if_neg (fun z => by have := (nI_leI (by omega) (by omega)).mp z; omega), dr_S, ck_t (ob_b f3).2, ck_t (by omega), bx_s d1, if_neg (nI_pos (by omega)), ck_t (ob_b S1).2, ck_t (by omega), bx_s d2, if_neg (fun z => by have := (nI_leI (by omega) (by omega)).mp z; omega), ck_t (ob_b S2).2, ck_t (by omega), bx_s d3, dr_S, ck_t A3.1, ck_t ir3, if_pos v3, ck_t (ob_b S3).2, ck_t (by omega), bx_s d4, ck_t A4.1, ck_t ir4, lw_S]
      · have nj : ltA F (B 0 1) j ≠ r := by
          rw [hr']
          exact fun z => lt_inj (show F < 2 ^ 31 by omega) (show k < j by omega) j2 z.symm
        rw [wI_o (.inr (by rw [nI_clamp (by omega)]; exact nj)), t4.2.2, t3.2.2, t2.2.2, t1.2.2]
        exact f6 j (by omega) j2) F 0 (M, kc, kn, nI 0) (by omega) ⟨M, kc, kn, rfl, Nat.le_refl _, Nat.le_refl _, S, FW_r _ _ _, A15, fun j _ _ => V15 _⟩
  have W := w_386e (t := t) (kc := kc') (kn := kn') (x8 := x8) (x15 := some a15) f3 I (ARo_f R f4 (Nat.le_refl _)) (ARo_f R10 f4 (Nat.le_refl _)) (ARo_f R11 f4 (Nat.le_refl _)) (Nat.le_trans hNm f4.2) hN0 (SHR_f Q f4 hN0) (FW_t hFW (FW_lo f4 hN0)) hK hkb ⟨by omega, by omega⟩ hw hG1 hm hr
  have key : lp_L_law_386 Z M kc kn (some x) (some b) (nI F) (nI G) (nI np) (nI t) x8 (nI who) (some a10) (some a11) (some a12) (B 0 0) (cvA B F G 0 6) (some a15) 0 = lp_L_law_386 Z M' kc' kn' (some x) (some b) (nI F) (nI G) (nI np) (nI t) x8 (nI who) (some a10) (some a11) (some a12) (B 0 0) (cvA B F G 0 6) (some a15) (nI F) := hlp
  rw [key]
  exact W
/-! the pacts -/
set_option maxRecDepth 50000 in
theorem w_327 (S : OB Z pg b o o' kb len F G np ng T B M) (A : AFo b a12 np 7 (pvA B) i 0 M) (hp6 : np ≤ 6) {kc kn : Nat} (hi : i < np) (hk : kc + 7 ≤ 600086 ∧ kn + 42 ≤ 7301442) : ∃ M', lp_L_law_327 Z M kc kn (some x) (some b) (nI F) (nI G) (nI np) (nI t) x8 x9 (some a10) (some a11) (some a12) (nI i) 0 = some (.inl (M', kc + 7, kn + 42, nI (i + 1))) ∧ OB Z pg b o o' kb len F G np ng T B M' ∧ AFo b a12 np 7 (pvA B) (i + 1) 0 M' ∧ FW b a12 M M' := by
  obtain ⟨q, ⟨M', rfl, f3, f4, f5⟩, hlp⟩ := lp_ex (f := fun (q : gMem × Nat × Nat × Int32) => bb_L_law_327 Z q.1 q.2.1 q.2.2.1 (some x) (some b) (nI F) (nI G) (nI np) (nI t) x8 x9 (some a10) (some a11) (some a12) (nI i) q.2.2.2)
    (fun j q => ∃ M', q = (M', kc + j, kn + 6 * j, nI j) ∧ OB Z pg b o o' kb len F G np ng T B M' ∧ AFo b a12 np 7 (pvA B) i j M' ∧ FW b a12 M M') 7 (fun j q hj hq => by
      obtain ⟨M', rfl, f3, f4, f5⟩ := hq
      obtain ⟨g1, g2, g3, g4, g5, g6⟩ := AFo_g f4 hi (by omega)
      have ij : inb (nI j) (mL M' (a12 + 1 + i)) := by rw [g5]; exact (inbN (by omega)).mpr hj
      refine ⟨(wI M' (a12 + 1 + i) (nI j).toNatClampNeg (pvA B i j), kc + j + 1, kn + 6 * j + 6, nI j + 1), ?_, wI M' (a12 + 1 + i) j (pvA B i j), by rw [nI_clamp (by omega), nI_1]; rfl, ob_I f3 (by omega), AFo_s f4 hi, FW_t f5 (FW_I (by omega))⟩
      show bb_L_law_327 Z M' (kc + j) (kn + 6 * j) (some x) (some b) (nI F) (nI G) (nI np) (nI t) x8 x9 (some a10) (some a11) (some a12) (nI i) (nI j) = _
      unfold bb_L_law_327
      rw [if_neg (fun z => by have := (nI_leI (a := 7) (by omega) (by omega)).mp z; omega), dr_S, ck_t g1, ck_t g2, dr_S, ck_t (ob_b f3).2, ck_t (by omega), bx_s (ob_pact f3 hi hj), dr_s g3, ck_t g4, ck_t ij, lw_S]) 7 0 (M, kc, kn, nI 0) (by omega) ⟨M, rfl, S, A, FW_r _ _ _⟩
  refine ⟨M', ?_, f3, AFo_n f4, f5⟩
  have key : lp_L_law_327 Z M kc kn (some x) (some b) (nI F) (nI G) (nI np) (nI t) x8 x9 (some a10) (some a11) (some a12) (nI i) 0 = lp (fun (q : gMem × Nat × Nat × Int32) => bb_L_law_327 Z q.1 q.2.1 q.2.2.1 (some x) (some b) (nI F) (nI G) (nI np) (nI t) x8 x9 (some a10) (some a11) (some a12) (nI i) q.2.2.2) (M', kc + 7, kn + 6 * 7, nI 7) := hlp
  rw [key]
  refine lp_oI ?_
  show bb_L_law_327 Z M' (kc + 7) (kn + 6 * 7) (some x) (some b) (nI F) (nI G) (nI np) (nI t) x8 x9 (some a10) (some a11) (some a12) (nI i) (nI 7) = _
  unfold bb_L_law_327
  rw [if_pos (by decide), nI_1]
end LAW
