/-! ## Pure: the law keeps what it was told, all of it -/
section LAW
variable {Z pg : Nat → Nat} {b o o' kb len F G np ng : Nat} {T : Nat → Nat} {M : gMem} {B B' : Nat → Nat → Int32} {ms : Nat → List Nat} {kd : Nat → Nat} {N0 N KC KN t x K a10 a11 a12 a15 a18 a24 i : Nat} {M0 : gMem} {x8 x9 : Int32} {c : Nat → Nat}
set_option maxRecDepth 50000 in
theorem w_317 (S : OB Z pg b o o' kb len F G np ng T B M) (I : INV B kb G np ms) (A : AFo b a12 np 7 (pvA B) 0 0 M) (R10 : ARo b N a10 F 10 (fvA B) M) (R11 : ARo b N a11 G 9 (gvA B) M) (hNa : N ≤ a12) (hN0 : N0 ≤ N) (Q : SHR b N0 x np K ms kd M) (hFW : FW b N0 M0 M) (hK : KC ≤ 600086 ∧ KN ≤ 7301442) (hkb : kb < 2 ^ 30) {kc kn who : Nat} (hk : kc + 890 ≤ KC ∧ kn + 5300 ≤ KN) (hw : who < F) (hG1 : 0 < G) (hm : ∀ p, p < np → (ms p).length ≤ 8 ∧ ∀ k, k < (ms p).length → (ms p).getD k 0 < F) (hr : np = 0 → (∀ j, j < K → ¬ (kd j = 3 ∨ kd j = 7)) → ∀ i, i < len → ¬ gSw (pg i) = 7) : RND Z pg b o o' (kb + 792) len F G np ng T ms N0 KC KN t M0 (lp_L_law_317 Z M kc kn (some x) (some b) (nI F) (nI G) (nI np) (nI t) x8 (nI who) (some a10) (some a11) (some a12) 0) := by
  obtain ⟨W, D, V⟩ := ob_W S
  have hF : F ≤ 8 := W.2.2.2.1
  have hp6 : np ≤ 6 := W.2.2.2.2.1.2.1
  obtain ⟨q, ⟨M', kc', kn', rfl, f1, f2, f3, f4, f5⟩, hlp⟩ := lp_ex (f := fun (q : gMem × Nat × Nat × Int32) => bb_L_law_317 Z q.1 q.2.1 q.2.2.1 (some x) (some b) (nI F) (nI G) (nI np) (nI t) x8 (nI who) (some a10) (some a11) (some a12) q.2.2.2)
    (fun i q => ∃ M' kc' kn', q = (M', kc', kn', nI i) ∧ kc' ≤ kc + 7 * i ∧ kn' ≤ kn + 42 * i ∧ OB Z pg b o o' kb len F G np ng T B M' ∧ AFo b a12 np 7 (pvA B) i 0 M' ∧ FW b a12 M M') np (fun i q hi hq => by
      obtain ⟨M', kc', kn', rfl, f1, f2, f3, f4, f5⟩ := hq
      obtain ⟨M2, e1, e2, e3, e4⟩ := w_327 (x := x) (t := t) (a10 := a10) (a11 := a11) (x8 := x8) (x9 := nI who) (kc := kc') (kn := kn') f3 f4 hp6 hi (by omega)
      refine ⟨_, ?_, M2, kc' + 7, kn' + 42, rfl, by omega, by omega, e2, e3, FW_t f5 e4⟩
      show bb_L_law_317 Z M' kc' kn' (some x) (some b) (nI F) (nI G) (nI np) (nI t) x8 (nI who) (some a10) (some a11) (some a12) (nI i) = _
      unfold bb_L_law_317
      rw [if_neg (fun z => by have := (nI_leI (by omega) (by omega)).mp z; omega), e1]) np 0 (M, kc, kn, nI 0) (by omega) ⟨M, kc, kn, rfl, Nat.le_refl _, Nat.le_refl _, S, A, FW_r _ _ _⟩
  have tb := (ob_b f3).2
  have hbN := (ob_b f3).1
  have aN : a12 + 1 + np ≤ mN M' := f4.2.2.2.1
  have hba : b + 178 ≤ a12 := f4.2.2.1
  obtain ⟨X, hX⟩ : ∃ X, X = nW M' 29 F := ⟨_, rfl⟩
  have SX : OB Z pg b o o' kb len F G np ng T B X := by rw [hX]; exact ob_n f3
  have FX : FW b (mN M') M' X := by rw [hX]; exact FW_n (Nat.le_refl _)
  have FN : FW b a12 M X := FW_t f5 (FW_lo FX (by omega))
  have W386 := w_386 (N := a12 + 1 + np) (t := t) (a15 := mN M') (kc := kc' + 1 + 1 + 1) (kn := kn' + 6 + 6 + 8) (x8 := x8) SX I (ARo_f (AFo_d f4) (FW_lo FX aN) (Nat.le_refl _)) (ARo_N (ARo_f R10 FN hNa) (by omega)) (ARo_N (ARo_f R11 FN hNa) (by omega)) (by rw [hX]; exact ⟨up1_e _ _ _, up1_e _ _ _⟩) (fun j => by rw [hX]; exact congrFun (up1_e _ _ _) j) aN (by omega) (Nat.le_trans aN FX.2) (by omega) (SHR_f Q FN (by omega)) (FW_t hFW (FW_lo FN (by omega))) hK hkb ⟨by omega, by omega⟩ hw hG1 hm hr
  have key : lp_L_law_317 Z M kc kn (some x) (some b) (nI F) (nI G) (nI np) (nI t) x8 (nI who) (some a10) (some a11) (some a12) 0 = lp_L_law_386 Z X (kc' + 1 + 1 + 1) (kn' + 6 + 6 + 8) (some x) (some b) (nI F) (nI G) (nI np) (nI t) x8 (nI who) (some a10) (some a11) (some a12) (B 0 0) (cvA B F G 0 6) (some (mN M')) 0 := by
    have k1 : lp_L_law_317 Z M kc kn (some x) (some b) (nI F) (nI G) (nI np) (nI t) x8 (nI who) (some a10) (some a11) (some a12) 0 = lp (fun (q : gMem × Nat × Nat × Int32) => bb_L_law_317 Z q.1 q.2.1 q.2.2.1 (some x) (some b) (nI F) (nI G) (nI np) (nI t) x8 (nI who) (some a10) (some a11) (some a12) q.2.2.2) (M', kc', kn', nI np) := hlp
    rw [k1]
    refine lp_oI ?_
    show bb_L_law_317 Z M' kc' kn' (some x) (some b) (nI F) (nI G) (nI np) (nI t) x8 (nI who) (some a10) (some a11) (some a12) (nI np) = _
    have c0 : f_X11_count M' b (0 : Int32) = some (.inr (B 0 0), M') := ob_count f3 (c := 0) (by omega)
    have c6 : f_X11_count M' b (6 : Int32) = some (.inr (cvA B F G 0 6), M') := ob_count f3 (c := 6) (by omega)
    unfold bb_L_law_317
    rw [if_pos ((nI_leI (by omega) (by omega)).mpr (Nat.le_refl _)), dr_S, ck_t tb, ck_t (by omega), bx_s c0, ck_t tb, ck_t (by omega), bx_s c6, ck_t (nI_pos (by omega)), nI_clamp (by omega), ck_t hF, ck_t (by omega), lw_S, ← hX]
  rw [key]
  exact W386
set_option maxRecDepth 50000 in
theorem w_269 (S : OB Z pg b o o' kb len F G np ng T B M) (A : AFo b a11 G 9 (gvA B) i 0 M) (hG : G ≤ 8) {kc kn : Nat} (hi : i < G) (hk : kc + 18 ≤ 600086 ∧ kn + 108 ≤ 7301442) : ∃ M', lp_L_law_269 Z M kc kn (some x) (some b) (nI F) (nI G) (nI np) (nI t) x8 x9 (some a10) (some a11) (nI i) 0 = some (.inl (M', kc + 18, kn + 108, nI (i + 1))) ∧ OB Z pg b o o' kb len F G np ng T B M' ∧ AFo b a11 G 9 (gvA B) (i + 1) 0 M' ∧ FW b a11 M M' := by
  obtain ⟨q, ⟨M', rfl, f3, f4, f5⟩, hlp⟩ := lp_ex (f := fun (q : gMem × Nat × Nat × Int32) => bb_L_law_269 Z q.1 q.2.1 q.2.2.1 (some x) (some b) (nI F) (nI G) (nI np) (nI t) x8 x9 (some a10) (some a11) (nI i) q.2.2.2)
    (fun j q => ∃ M', q = (M', kc + 2 * j, kn + 12 * j, nI j) ∧ OB Z pg b o o' kb len F G np ng T B M' ∧ AFo b a11 G 9 (gvA B) i j M' ∧ FW b a11 M M') 9 (fun j q hj hq => by
      obtain ⟨M', rfl, f3, f4, f5⟩ := hq
      obtain ⟨g1, g2, g3, g4, g5, g6⟩ := AFo_g f4 hi (by omega)
      have ij : inb (nI j) (mL M' (a11 + 1 + i)) := by rw [g5]; exact (inbN (by omega)).mpr hj
      refine ⟨(wI M' (a11 + 1 + i) (nI j).toNatClampNeg (gvA B i j), kc + 2 * j + 2, kn + 12 * j + 12, nI j + 1), ?_, wI M' (a11 + 1 + i) j (gvA B i j), by rw [nI_clamp (by omega), nI_1]; rfl, ob_I f3 (by omega), AFo_s f4 hi, FW_t f5 (FW_I (by omega))⟩
      show bb_L_law_269 Z M' (kc + 2 * j) (kn + 12 * j) (some x) (some b) (nI F) (nI G) (nI np) (nI t) x8 x9 (some a10) (some a11) (nI i) (nI j) = _
      unfold bb_L_law_269
      rw [if_neg (fun z => by have := (nI_leI (a := 9) (by omega) (by omega)).mp z; omega), dr_S, ck_t g1, ck_t g2, dr_S, ck_t (ob_b f3).2, ck_t (by omega), bx_s (ob_ground f3 hi hj), dr_s g3, ck_t g4, ck_t ij, lw_S]) 9 0 (M, kc, kn, nI 0) (by omega) ⟨M, rfl, S, A, FW_r _ _ _⟩
  refine ⟨M', ?_, f3, AFo_n f4, f5⟩
  have key : lp_L_law_269 Z M kc kn (some x) (some b) (nI F) (nI G) (nI np) (nI t) x8 x9 (some a10) (some a11) (nI i) 0 = lp (fun (q : gMem × Nat × Nat × Int32) => bb_L_law_269 Z q.1 q.2.1 q.2.2.1 (some x) (some b) (nI F) (nI G) (nI np) (nI t) x8 x9 (some a10) (some a11) (nI i) q.2.2.2) (M', kc + 2 * 9, kn + 12 * 9, nI 9) := hlp
  rw [key]
  refine lp_oI ?_
  show bb_L_law_269 Z M' (kc + 2 * 9) (kn + 12 * 9) (some x) (some b) (nI F) (nI G) (nI np) (nI t) x8 x9 (some a10) (some a11) (nI i) (nI 9) = _
  unfold bb_L_law_269
  rw [if_pos (by decide), nI_1]
set_option maxRecDepth 50000 in
theorem w_259 (S : OB Z pg b o o' kb len F G np ng T B M) (I : INV B kb G np ms) (A : AFo b a11 G 9 (gvA B) 0 0 M) (R10 : ARo b N a10 F 10 (fvA B) M) (hNa : N ≤ a11) (hN0 : N0 ≤ N) (Q : SHR b N0 x np K ms kd M) (hFW : FW b N0 M0 M) (hK : KC ≤ 600086 ∧ KN ≤ 7301442) (hkb : kb < 2 ^ 30) {kc kn who : Nat} (hk : kc + 1050 ≤ KC ∧ kn + 6300 ≤ KN) (hw : who < F) (hG1 : 0 < G) (hm : ∀ p, p < np → (ms p).length ≤ 8 ∧ ∀ k, k < (ms p).length → (ms p).getD k 0 < F) (hr : np = 0 → (∀ j, j < K → ¬ (kd j = 3 ∨ kd j = 7)) → ∀ i, i < len → ¬ gSw (pg i) = 7) : RND Z pg b o o' (kb + 792) len F G np ng T ms N0 KC KN t M0 (lp_L_law_259 Z M kc kn (some x) (some b) (nI F) (nI G) (nI np) (nI t) x8 (nI who) (some a10) (some a11) 0) := by
  obtain ⟨W, D, V⟩ := ob_W S
  have hG : G ≤ 8 := W.2.1
  have hp6 : np ≤ 6 := W.2.2.2.2.1.2.1
  obtain ⟨q, ⟨M', kc', kn', rfl, f1, f2, f3, f4, f5⟩, hlp⟩ := lp_ex (f := fun (q : gMem × Nat × Nat × Int32) => bb_L_law_259 Z q.1 q.2.1 q.2.2.1 (some x) (some b) (nI F) (nI G) (nI np) (nI t) x8 (nI who) (some a10) (some a11) q.2.2.2)
    (fun i q => ∃ M' kc' kn', q = (M', kc', kn', nI i) ∧ kc' ≤ kc + 18 * i ∧ kn' ≤ kn + 108 * i ∧ OB Z pg b o o' kb len F G np ng T B M' ∧ AFo b a11 G 9 (gvA B) i 0 M' ∧ FW b a11 M M') G (fun i q hi hq => by
      obtain ⟨M', kc', kn', rfl, f1, f2, f3, f4, f5⟩ := hq
      obtain ⟨M2, e1, e2, e3, e4⟩ := w_269 (x := x) (t := t) (a10 := a10) (x8 := x8) (x9 := nI who) (kc := kc') (kn := kn') f3 f4 hG hi (by omega)
      refine ⟨_, ?_, M2, kc' + 18, kn' + 108, rfl, by omega, by omega, e2, e3, FW_t f5 e4⟩
      show bb_L_law_259 Z M' kc' kn' (some x) (some b) (nI F) (nI G) (nI np) (nI t) x8 (nI who) (some a10) (some a11) (nI i) = _
      unfold bb_L_law_259
      rw [if_neg (fun z => by have := (nI_leI (by omega) (by omega)).mp z; omega), e1]) G 0 (M, kc, kn, nI 0) (by omega) ⟨M, kc, kn, rfl, Nat.le_refl _, Nat.le_refl _, S, A, FW_r _ _ _⟩
  have tb := (ob_b f3).2
  have hbN := (ob_b f3).1
  have aN : a11 + 1 + G ≤ mN M' := f4.2.2.2.1
  have hba : b + 178 ≤ a11 := f4.2.2.1
  obtain ⟨X, hX⟩ : ∃ X, X = mnM M' np 7 := ⟨_, rfl⟩
  have SX : OB Z pg b o o' kb len F G np ng T B X := by rw [hX]; exact ob_m f3
  have FX : FW b (mN M') M' X := by rw [hX]; exact FW_m (Nat.le_refl _)
  have AX : AFo b (mN M') np 7 (pvA B) 0 0 X := by rw [hX]; exact AFo_0 hbN
  have FN : FW b a11 M X := FW_t f5 (FW_lo FX (by omega))
  have W317 := w_317 (N := a11 + 1 + G) (t := t) (a12 := mN M') (kc := kc' + 9) (kn := kn' + 64) (x8 := x8) SX I AX (ARo_N (ARo_f R10 FN hNa) (by omega)) (ARo_f (AFo_d f4) (FW_lo FX aN) (Nat.le_refl _)) aN (by omega) (SHR_f Q FN (by omega)) (FW_t hFW (FW_lo FN (by omega))) hK hkb ⟨by omega, by omega⟩ hw hG1 hm hr
  have key : lp_L_law_259 Z M kc kn (some x) (some b) (nI F) (nI G) (nI np) (nI t) x8 (nI who) (some a10) (some a11) 0 = lp_L_law_317 Z X (kc' + 9) (kn' + 64) (some x) (some b) (nI F) (nI G) (nI np) (nI t) x8 (nI who) (some a10) (some a11) (some (mN M')) 0 := by
    have k1 : lp_L_law_259 Z M kc kn (some x) (some b) (nI F) (nI G) (nI np) (nI t) x8 (nI who) (some a10) (some a11) 0 = lp (fun (q : gMem × Nat × Nat × Int32) => bb_L_law_259 Z q.1 q.2.1 q.2.2.1 (some x) (some b) (nI F) (nI G) (nI np) (nI t) x8 (nI who) (some a10) (some a11) q.2.2.2) (M', kc', kn', nI G) := hlp
    rw [k1]
    refine lp_oI ?_
    show bb_L_law_259 Z M' kc' kn' (some x) (some b) (nI F) (nI G) (nI np) (nI t) x8 (nI who) (some a10) (some a11) (nI G) = _
    have h7 : mnM M' np ((7 : Int32)).toNatClampNeg = X := hX.symm
    unfold bb_L_law_259
    rw [if_pos ((nI_leI (by omega) (by omega)).mpr (Nat.le_refl _)), ck_t (nI_pos (by omega)), nI_clamp (by omega), ck_t (show np ≤ 8 by omega), ck_t (by omega), lw_S, h7]
  rw [key]
  exact W317
set_option maxRecDepth 50000 in
theorem w_211 (S : OB Z pg b o o' kb len F G np ng T B M) (A : AFo b a10 F 10 (fvA B) i 0 M) (hF : F ≤ 8) {kc kn : Nat} (hi : i < F) (hk : kc + 20 ≤ 600086 ∧ kn + 120 ≤ 7301442) : ∃ M', lp_L_law_211 Z M kc kn (some x) (some b) (nI F) (nI G) (nI np) (nI t) x8 x9 (some a10) (nI i) 0 = some (.inl (M', kc + 20, kn + 120, nI (i + 1))) ∧ OB Z pg b o o' kb len F G np ng T B M' ∧ AFo b a10 F 10 (fvA B) (i + 1) 0 M' ∧ FW b a10 M M' := by
  obtain ⟨q, ⟨M', rfl, f3, f4, f5⟩, hlp⟩ := lp_ex (f := fun (q : gMem × Nat × Nat × Int32) => bb_L_law_211 Z q.1 q.2.1 q.2.2.1 (some x) (some b) (nI F) (nI G) (nI np) (nI t) x8 x9 (some a10) (nI i) q.2.2.2)
    (fun j q => ∃ M', q = (M', kc + 2 * j, kn + 12 * j, nI j) ∧ OB Z pg b o o' kb len F G np ng T B M' ∧ AFo b a10 F 10 (fvA B) i j M' ∧ FW b a10 M M') 10 (fun j q hj hq => by
      obtain ⟨M', rfl, f3, f4, f5⟩ := hq
      obtain ⟨g1, g2, g3, g4, g5, g6⟩ := AFo_g f4 hi (by omega)
      have ij : inb (nI j) (mL M' (a10 + 1 + i)) := by rw [g5]; exact (inbN (by omega)).mpr hj
      refine ⟨(wI M' (a10 + 1 + i) (nI j).toNatClampNeg (fvA B i j), kc + 2 * j + 2, kn + 12 * j + 12, nI j + 1), ?_, wI M' (a10 + 1 + i) j (fvA B i j), by rw [nI_clamp (by omega), nI_1]; rfl, ob_I f3 (by omega), AFo_s f4 hi, FW_t f5 (FW_I (by omega))⟩
      show bb_L_law_211 Z M' (kc + 2 * j) (kn + 12 * j) (some x) (some b) (nI F) (nI G) (nI np) (nI t) x8 x9 (some a10) (nI i) (nI j) = _
      unfold bb_L_law_211
      rw [if_neg (fun z => by have := (nI_leI (a := 10) (by omega) (by omega)).mp z; omega), dr_S, ck_t g1, ck_t g2, dr_S, ck_t (ob_b f3).2, ck_t (by omega), bx_s (ob_fisher f3 hi hj), dr_s g3, ck_t g4, ck_t ij, lw_S]) 10 0 (M, kc, kn, nI 0) (by omega) ⟨M, rfl, S, A, FW_r _ _ _⟩
  refine ⟨M', ?_, f3, AFo_n f4, f5⟩
  have key : lp_L_law_211 Z M kc kn (some x) (some b) (nI F) (nI G) (nI np) (nI t) x8 x9 (some a10) (nI i) 0 = lp (fun (q : gMem × Nat × Nat × Int32) => bb_L_law_211 Z q.1 q.2.1 q.2.2.1 (some x) (some b) (nI F) (nI G) (nI np) (nI t) x8 x9 (some a10) (nI i) q.2.2.2) (M', kc + 2 * 10, kn + 12 * 10, nI 10) := hlp
  rw [key]
  refine lp_oI ?_
  show bb_L_law_211 Z M' (kc + 2 * 10) (kn + 12 * 10) (some x) (some b) (nI F) (nI G) (nI np) (nI t) x8 x9 (some a10) (nI i) (nI 10) = _
  unfold bb_L_law_211
  rw [if_pos (by decide), nI_1]
set_option maxRecDepth 50000 in
theorem w_201 (S : OB Z pg b o o' kb len F G np ng T B M) (I : INV B kb G np ms) (A : AFo b a10 F 10 (fvA B) 0 0 M) (hNa : N ≤ a10) (hN0 : N0 ≤ N) (Q : SHR b N0 x np K ms kd M) (hFW : FW b N0 M0 M) (hK : KC ≤ 600086 ∧ KN ≤ 7301442) (hkb : kb < 2 ^ 30) {kc kn who : Nat} (hk : kc + 1230 ≤ KC ∧ kn + 7400 ≤ KN) (hw : who < F) (hG1 : 0 < G) (hm : ∀ p, p < np → (ms p).length ≤ 8 ∧ ∀ k, k < (ms p).length → (ms p).getD k 0 < F) (hr : np = 0 → (∀ j, j < K → ¬ (kd j = 3 ∨ kd j = 7)) → ∀ i, i < len → ¬ gSw (pg i) = 7) : RND Z pg b o o' (kb + 792) len F G np ng T ms N0 KC KN t M0 (lp_L_law_201 Z M kc kn (some x) (some b) (nI F) (nI G) (nI np) (nI t) x8 (nI who) (some a10) 0) := by
  obtain ⟨W, D, V⟩ := ob_W S
  have hG : G ≤ 8 := W.2.1
  have hF : F ≤ 8 := W.2.2.2.1
  obtain ⟨q, ⟨M', kc', kn', rfl, f1, f2, f3, f4, f5⟩, hlp⟩ := lp_ex (f := fun (q : gMem × Nat × Nat × Int32) => bb_L_law_201 Z q.1 q.2.1 q.2.2.1 (some x) (some b) (nI F) (nI G) (nI np) (nI t) x8 (nI who) (some a10) q.2.2.2)
    (fun i q => ∃ M' kc' kn', q = (M', kc', kn', nI i) ∧ kc' ≤ kc + 20 * i ∧ kn' ≤ kn + 120 * i ∧ OB Z pg b o o' kb len F G np ng T B M' ∧ AFo b a10 F 10 (fvA B) i 0 M' ∧ FW b a10 M M') F (fun i q hi hq => by
      obtain ⟨M', kc', kn', rfl, f1, f2, f3, f4, f5⟩ := hq
      obtain ⟨M2, e1, e2, e3, e4⟩ := w_211 (x := x) (t := t) (x8 := x8) (x9 := nI who) (kc := kc') (kn := kn') f3 f4 hF hi (by omega)
      refine ⟨_, ?_, M2, kc' + 20, kn' + 120, rfl, by omega, by omega, e2, e3, FW_t f5 e4⟩
      show bb_L_law_201 Z M' kc' kn' (some x) (some b) (nI F) (nI G) (nI np) (nI t) x8 (nI who) (some a10) (nI i) = _
      unfold bb_L_law_201
      rw [if_neg (fun z => by have := (nI_leI (by omega) (by omega)).mp z; omega), e1]) F 0 (M, kc, kn, nI 0) (by omega) ⟨M, kc, kn, rfl, Nat.le_refl _, Nat.le_refl _, S, A, FW_r _ _ _⟩
  have tb := (ob_b f3).2
  have hbN := (ob_b f3).1
  have aN : a10 + 1 + F ≤ mN M' := f4.2.2.2.1
  have hba : b + 178 ≤ a10 := f4.2.2.1
  obtain ⟨X, hX⟩ : ∃ X, X = mnM M' G 9 := ⟨_, rfl⟩
  have SX : OB Z pg b o o' kb len F G np ng T B X := by rw [hX]; exact ob_m f3
  have FX : FW b (mN M') M' X := by rw [hX]; exact FW_m (Nat.le_refl _)
  have AX : AFo b (mN M') G 9 (gvA B) 0 0 X := by rw [hX]; exact AFo_0 hbN
  have FN : FW b a10 M X := FW_t f5 (FW_lo FX (by omega))
  have W259 := w_259 (N := a10 + 1 + F) (t := t) (a11 := mN M') (kc := kc' + 9) (kn := kn' + 80) (x8 := x8) SX I AX (ARo_f (AFo_d f4) (FW_lo FX aN) (Nat.le_refl _)) aN (by omega) (SHR_f Q FN (by omega)) (FW_t hFW (FW_lo FN (by omega))) hK hkb ⟨by omega, by omega⟩ hw hG1 hm hr
  have key : lp_L_law_201 Z M kc kn (some x) (some b) (nI F) (nI G) (nI np) (nI t) x8 (nI who) (some a10) 0 = lp_L_law_259 Z X (kc' + 9) (kn' + 80) (some x) (some b) (nI F) (nI G) (nI np) (nI t) x8 (nI who) (some a10) (some (mN M')) 0 := by
    have k1 : lp_L_law_201 Z M kc kn (some x) (some b) (nI F) (nI G) (nI np) (nI t) x8 (nI who) (some a10) 0 = lp (fun (q : gMem × Nat × Nat × Int32) => bb_L_law_201 Z q.1 q.2.1 q.2.2.1 (some x) (some b) (nI F) (nI G) (nI np) (nI t) x8 (nI who) (some a10) q.2.2.2) (M', kc', kn', nI F) := hlp
    rw [k1]
    refine lp_oI ?_
    show bb_L_law_201 Z M' kc' kn' (some x) (some b) (nI F) (nI G) (nI np) (nI t) x8 (nI who) (some a10) (nI F) = _
    have h9 : mnM M' G ((9 : Int32)).toNatClampNeg = X := hX.symm
    unfold bb_L_law_201
    rw [if_pos ((nI_leI (by omega) (by omega)).mpr (Nat.le_refl _)), ck_t (nI_pos (by omega)), nI_clamp (by omega), ck_t hG, ck_t (by omega), lw_S, h9]
  rw [key]
  exact W259
set_option maxRecDepth 50000 in
theorem w_188 (S : OB Z pg b o o' kb len F G np ng T B M) (I : INV B kb G np ms) (hNa : N ≤ mN M) (hN0 : N0 ≤ N) (Q : SHR b N0 x np K ms kd M) (hFW : FW b N0 M0 M) (hK : KC ≤ 600086 ∧ KN ≤ 7301442) (hkb : kb < 2 ^ 30) {kc kn who : Nat} (hk : kc + 1240 ≤ KC ∧ kn + 7500 ≤ KN) (hw : who < F) (hG1 : 0 < G) (hm : ∀ p, p < np → (ms p).length ≤ 8 ∧ ∀ k, k < (ms p).length → (ms p).getD k 0 < F) (hr : np = 0 → (∀ j, j < K → ¬ (kd j = 3 ∨ kd j = 7)) → ∀ i, i < len → ¬ gSw (pg i) = 7) : RND Z pg b o o' (kb + 792) len F G np ng T ms N0 KC KN t M0 (b_L_law_188 Z M kc kn (some x) (some b) (nI F) (nI G) (nI np) (nI t) x8 (nI who)) := by
  obtain ⟨W, D, V⟩ := ob_W S
  have hF : F ≤ 8 := W.2.2.2.1
  have hbN := (ob_b S).1
  obtain ⟨X, hX⟩ : ∃ X, X = mnM M F 10 := ⟨_, rfl⟩
  have SX : OB Z pg b o o' kb len F G np ng T B X := by rw [hX]; exact ob_m S
  have FX : FW b (mN M) M X := by rw [hX]; exact FW_m (Nat.le_refl _)
  have AX : AFo b (mN M) F 10 (fvA B) 0 0 X := by rw [hX]; exact AFo_0 hbN
  have W201 := w_201 (N := N) (t := t) (a10 := mN M) (kc := kc + 9) (kn := kn + 88) (x8 := x8) SX I AX hNa hN0 (SHR_f Q (FW_lo FX hNa) hN0) (FW_t hFW (FW_lo FX (by omega))) hK hkb ⟨by omega, by omega⟩ hw hG1 hm hr
  have h10 : mnM M F ((10 : Int32)).toNatClampNeg = X := hX.symm
  unfold b_L_law_188
  rw [ck_t (nI_pos (by omega)), nI_clamp (by omega), ck_t hF, ck_t (by omega), lw_S, h10]
  exact W201
end LAW
