/-! ## Pure: the law's loop over the fishers, behind a tide -/
/-- what a tide did to a fisher, as the law sees it -/
def FCT (B B' : Nat → Nat → Int32) (G : Nat) (c : Nat → Nat) (f : Nat) : Prop := ∃ num te h m : Nat, (fvA B' f 6 = -1 ∨ ∃ g, g < G ∧ fvA B' f 6 = nI g) ∧ fvA B' f 9 - fvA B f 9 = nI num ∧ fvA B' f 7 - fvA B f 7 = nI te ∧ te ≤ 1 ∧ fvA B' f 5 = nI (c f) ∧ fvA B' f 4 = fvA B f 4 + fvA B' f 5 ∧ fvA B f 3 = nI h ∧ h ≤ 40 ∧ num ≤ h ∧ (fvA B' f 6 = -1 → num = 0 ∧ te = 0) ∧ fvA B' f 0 = fvA B f 0 + nI te ∧ fvA B' f 0 = nI m ∧ m ≤ 6 ∧ (∀ w, (w = 1 ∨ w = 2 ∨ w = 3 ∨ w = 8) → fvA B' f w = fvA B f w) ∧ fvA B' f 9 = sumN (fun g => B' (35 + 2 * f) g) G ∧ c f ≤ 1000
def w4N (k : Nat) : Nat := if k = 3 then 8 else k + 1
def bnN (B' : Nat → Nat → Int32) (g : Nat) : Nat → Nat := smN (fun f => if fvA B' f 6 = nI g then 1 else 0)
section LAW
variable {Z pg : Nat → Nat} {b o o' kb len F G np ng : Nat} {T : Nat → Nat} {M : gMem} {B B' : Nat → Nat → Int32} {ms : Nat → List Nat} {kd : Nat → Nat} {N0 N KC KN t x K a10 a11 a12 a24 : Nat} {M0 : gMem} {x6 x7 x19 x20 x21 x23 x25 : Int32} {c : Nat → Nat}
set_option maxRecDepth 50000 in
theorem w_950 (S : OB Z pg b o o' kb len F G np ng T B' M) (hG : G ≤ 8) (hF : F ≤ 8) {kc kn f : Nat} (hf : f < F) (hk : kc + 18 ≤ 600086 ∧ kn + 108 ≤ 7301442) (P : FCT B B' G c f) : ∃ kc' kn', lp_L_law_950 Z M kc kn (some x) (some b) (nI F) (nI G) x6 x7 (some a10) (some a11) (some a12) x19 x20 x21 x23 (some a24) x25 (nI f) 0 0 = some (.inl (M, kc', kn', x25, nI (f + 1))) ∧ kc' ≤ kc + 18 ∧ kn' ≤ kn + 108 := by
  obtain ⟨num, te, h, m, p1, p2, p3, p4, p5, p6, p7, p8, p9, p10, p11, p12, p13, p14, p15, p16⟩ := P
  have tb := (ob_b S).2
  refine ⟨kc + 2 * G + 2, kn + 12 * G + 12, ?_, by omega, by omega⟩
  unfold lp_L_law_950
  refine lp_seq (f := fun (q : gMem × Nat × Nat × Int32 × Int32) => bb_L_law_950 Z q.1 q.2.1 q.2.2.1 (some x) (some b) (nI F) (nI G) x6 x7 (some a10) (some a11) (some a12) x19 x20 x21 x23 (some a24) x25 (nI f) q.2.2.2.1 q.2.2.2.2) (fun k => (M, kc + 2 * k, kn + 12 * k, sumN (fun g => B' (35 + 2 * f) g) k, nI k)) 0 G (Nat.zero_le _) (fun k _ hk2 => ?_) ?_
  · show bb_L_law_950 Z M (kc + 2 * k) (kn + 12 * k) (some x) (some b) (nI F) (nI G) x6 x7 (some a10) (some a11) (some a12) x19 x20 x21 x23 (some a24) x25 (nI f) (sumN (fun g => B' (35 + 2 * f) g) k) (nI k) = some (.inl (M, kc + 2 * (k + 1), kn + 12 * (k + 1), sumN (fun g => B' (35 + 2 * f) g) (k + 1), nI (k + 1)))
    unfold bb_L_law_950
    rw [if_neg (fun z => by have := (nI_leI (by omega) (by omega)).mp z; omega), dr_S, ck_t tb, ck_t ⟨by omega, by omega⟩, bx_s (ob_took S hk2 hf), nI_1]
    rfl
  · show bb_L_law_950 Z M (kc + 2 * G) (kn + 12 * G) (some x) (some b) (nI F) (nI G) x6 x7 (some a10) (some a11) (some a12) x19 x20 x21 x23 (some a24) x25 (nI f) (sumN (fun g => B' (35 + 2 * f) g) G) (nI G) = _
    have a9 : f_X11_fisher M b (nI f) (9 : Int32) = some (.inr (sumN (fun g => B' (35 + 2 * f) g) G), M) := by rw [← p15]; exact ob_fisher S hf (c := 9) (by omega)
    unfold bb_L_law_950
    rw [if_pos ((nI_leI (by omega) (by omega)).mpr (Nat.le_refl _)), dr_S, ck_t tb, ck_t ⟨by omega, by omega⟩, bx_s a9, if_pos rfl, nI_1]
    rfl
set_option maxRecDepth 50000 in
theorem w_903 (S : OB Z pg b o o' kb len F G np ng T B' M) (R10 : ARo b N a10 F 10 (fvA B) M) (hG : G ≤ 8) (hF : F ≤ 8) {kc kn f a30 : Nat} (hf : f < F) (hk : kc + 26 ≤ 600086 ∧ kn + 156 ≤ 7301442) (P : FCT B B' G c f) (A1 : mT M a30 = 20) (A2 : mL M a30 = 4) (A3 : ∀ k, k < 4 → mI M a30 k = nI (w4N k)) : ∃ kc' kn', lp_L_law_903 Z M kc kn (some x) (some b) (nI F) (nI G) x6 x7 (some a10) (some a11) (some a12) x19 x20 x21 x23 (some a24) x25 (nI f) (some a30) (nI 4) 0 = some (.inl (M, kc', kn', x25, nI (f + 1))) ∧ kc' ≤ kc + 26 ∧ kn' ≤ kn + 156 := by
  have P0 := P
  obtain ⟨num, te, h, m, p1, p2, p3, p4, p5, p6, p7, p8, p9, p10, p11, p12, p13, p14, p15, p16⟩ := P
  have tb := (ob_b S).2
  obtain ⟨kc', kn', e1, e2, e3⟩ := w_950 (x := x) (a10 := a10) (a11 := a11) (a12 := a12) (a24 := a24) (x6 := x6) (x7 := x7) (x19 := x19) (x20 := x20) (x21 := x21) (x23 := x23) (x25 := x25) (kc := kc + 8) (kn := kn + 48) S hG hF hf ⟨by omega, by omega⟩ P0
  refine ⟨kc', kn', ?_, by omega, by omega⟩
  obtain ⟨r, g1, g2, g3, g4, g5⟩ := ARo_g R10 hf (by omega) (by omega)
  unfold lp_L_law_903
  refine lp_seq (f := fun (q : gMem × Nat × Nat × Int32) => bb_L_law_903 Z q.1 q.2.1 q.2.2.1 (some x) (some b) (nI F) (nI G) x6 x7 (some a10) (some a11) (some a12) x19 x20 x21 x23 (some a24) x25 (nI f) (some a30) (nI 4) q.2.2.2) (fun k => (M, kc + 2 * k, kn + 12 * k, nI k)) 0 4 (Nat.zero_le _) (fun k _ hk2 => ?_) ?_
  · show bb_L_law_903 Z M (kc + 2 * k) (kn + 12 * k) (some x) (some b) (nI F) (nI G) x6 x7 (some a10) (some a11) (some a12) x19 x20 x21 x23 (some a24) x25 (nI f) (some a30) (nI 4) (nI k) = some (.inl (M, kc + 2 * (k + 1), kn + 12 * (k + 1), nI (k + 1)))
    have hw : w4N k = 1 ∨ w4N k = 2 ∨ w4N k = 3 ∨ w4N k = 8 := by unfold w4N; split <;> omega
    have ev : mI M a30 (nI k).toNatClampNeg = nI (w4N k) := by rw [nI_clamp (by omega)]; exact A3 k hk2
    have ik : inb (nI k) (mL M a30) := by rw [A2]; exact (inbN (by omega)).mpr hk2
    unfold bb_L_law_903
    rw [if_neg (fun z => by have := (nI_leI (by omega) (by omega)).mp z; omega), dr_S, ck_t A1, ck_t ik, dr_S, ck_t tb, ck_t ⟨by omega, by omega⟩, ev, bx_s (ob_fisher S hf (show w4N k < 10 by omega)), dr_S, ck_t R10.1, ck_t g1, dr_s g2, ck_t g3, ck_t (g4 _ (show w4N k < 10 by omega)), g5 _ (show w4N k < 10 by omega), if_pos (p14 _ hw), nI_1]
    rfl
  · show bb_L_law_903 Z M (kc + 2 * 4) (kn + 12 * 4) (some x) (some b) (nI F) (nI G) x6 x7 (some a10) (some a11) (some a12) x19 x20 x21 x23 (some a24) x25 (nI f) (some a30) (nI 4) (nI 4) = _
    unfold bb_L_law_903
    rw [if_pos ((nI_leI (by omega) (by omega)).mpr (Nat.le_refl _)), e1]
    rfl
set_option maxRecDepth 50000 in
theorem w_828 (S : OB Z pg b o o' kb len F G np ng T B' M) (R10 : ARo b N a10 F 10 (fvA B) M) (hN : N ≤ mN M) (hG : G ≤ 8) (hF : F ≤ 8) {kc kn f te : Nat} (hf : f < F) (hk : kc + 31 ≤ 600086 ∧ kn + 184 ≤ 7301442) (P : FCT B B' G c f) (ht : fvA B' f 7 - fvA B f 7 = nI te) (ht1 : te ≤ 1) : ∃ M' kc' kn', b_L_law_828 Z M kc kn (some x) (some b) (nI F) (nI G) x6 x7 (some a10) (some a11) (some a12) x19 x20 x21 x23 (some a24) x25 (nI f) (nI te) = some (.inl (M', kc', kn', x25, nI (f + 1))) ∧ kc' ≤ kc + 31 ∧ kn' ≤ kn + 184 ∧ OB Z pg b o o' kb len F G np ng T B' M' ∧ FW b (mN M) M M' := by
  have P0 := P
  obtain ⟨num, te', h, m, p1, p2, p3, p4, p5, p6, p7, p8, p9, p10, p11, p12, p13, p14, p15, p16⟩ := P
  have et : te' = te := (nI_eq (by omega) (by omega)).mp (p3.symm.trans ht)
  subst et
  have tb := (ob_b S).2
  have hbN := (ob_b S).1
  obtain ⟨r, g1, g2, g3, g4, g5⟩ := ARo_g R10 hf (by omega) (by omega)
  have q0 : inb (0 : Int32) (mL M r) := g4 0 (by omega)
  have v0 : mI M r ((0 : Int32)).toNatClampNeg = fvA B f 0 := g5 0 (by omega)
  have a0 : f_X11_fisher M b (nI f) (0 : Int32) = some (.inr (fvA B' f 0), M) := ob_fisher S hf (c := 0) (by omega)
  have l6 : fvA B' f 0 ≤ (6 : Int32) := by rw [p12]; exact (nI_leI (b := 6) (by omega) (by omega)).mpr p13
  have lt1 : ¬ (1 : Int32) < nI te' := fun z => by have := (nI_ltI (a := 1) (by omega) (by omega)).mp z; omega
  obtain ⟨X0, hX0⟩ : ∃ X, X = nW M 20 4 := ⟨_, rfl⟩
  have x0T : mT X0 (mN M) = 20 ∧ mL X0 (mN M) = 4 := by rw [hX0]; exact ⟨up1_e _ _ _, up1_e _ _ _⟩
  obtain ⟨X4, hX4⟩ : ∃ X, X = wI (wI (wI (wI X0 (mN M) 0 1) (mN M) 1 2) (mN M) 2 3) (mN M) 3 8 := ⟨_, rfl⟩
  have x4T : mT X4 = mT X0 ∧ mL X4 = mL X0 := by rw [hX4]; exact ⟨rfl, rfl⟩
  have S4 : OB Z pg b o o' kb len F G np ng T B' X4 := by rw [hX4, hX0]; exact ob_I (ob_I (ob_I (ob_I (ob_n S) hbN) hbN) hbN) hbN
  have F4 : FW b (mN M) M X4 := by
    rw [hX4, hX0]
    exact FW_t (FW_n (Nat.le_refl _)) (FW_t (FW_I (Nat.le_refl _)) (FW_t (FW_I (Nat.le_refl _)) (FW_t (FW_I (Nat.le_refl _)) (FW_I (Nat.le_refl _)))))
  have R4 : ARo b N a10 F 10 (fvA B) X4 := ARo_f R10 F4 hN
  have A3 : ∀ k, k < 4 → mI X4 (mN M) k = nI (w4N k) := fun k hk2 => by
    rw [hX4]
    rcases (show k = 0 ∨ k = 1 ∨ k = 2 ∨ k = 3 by omega) with e | e | e | e <;> subst e
    · rw [wI_o (.inr (by decide)), wI_o (.inr (by decide)), wI_o (.inr (by decide)), wI_e]; rfl
    · rw [wI_o (.inr (by decide)), wI_o (.inr (by decide)), wI_e]; rfl
    · rw [wI_o (.inr (by decide)), wI_e]; rfl
    · rw [wI_e]; rfl
  obtain ⟨kc', kn', e1, e2, e3⟩ := w_903 (x := x) (a10 := a10) (a11 := a11) (a12 := a12) (a24 := a24) (x6 := x6) (x7 := x7) (x19 := x19) (x20 := x20) (x21 := x21) (x23 := x23) (x25 := x25) (kc := kc + 2 + 2 + 1) (kn := kn + 12 + 12 + 4) (a30 := mN M) S4 R4 hG hF hf ⟨by omega, by omega⟩ P0 (by rw [x4T.1]; exact x0T.1) (by rw [x4T.2]; exact x0T.2) A3
  refine ⟨X4, kc', kn', ?_, by omega, by omega, S4, F4⟩
  unfold b_L_law_828
  rw [if_neg (nI_pos (by omega)), if_neg lt1, dr_S, ck_t tb, ck_t ⟨by omega, by omega⟩, bx_s a0, dr_S, ck_t R10.1, ck_t g1, dr_s g2, ck_t g3, ck_t q0, v0, if_pos p11, ck_t tb, ck_t ⟨by omega, by omega⟩, bx_s a0, if_pos l6, ck_t ⟨by omega, by omega⟩, lw_S]
  have e4 : nW M 20 ((4 : Int32)).toNatClampNeg = X0 := hX0.symm
  have l4 : ∀ j, j < 4 → inb (nI j) (mL X0 (mN M)) := fun j hj => by rw [x0T.2]; exact (inbN (by omega)).mpr hj
  rw [e4, ck_t x0T.1, ck_t (show inb (0 : Int32) (mL X0 (mN M)) from l4 0 (by decide)), lw_S, ck_t (show inb (1 : Int32) (mL (wI X0 (mN M) ((0 : Int32)).toNatClampNeg 1) (mN M)) from l4 1 (by decide)), lw_S, ck_t (show inb (2 : Int32) (mL (wI (wI X0 (mN M) ((0 : Int32)).toNatClampNeg 1) (mN M) ((1 : Int32)).toNatClampNeg 2) (mN M)) from l4 2 (by decide)), lw_S, ck_t (show inb (3 : Int32) (mL (wI (wI (wI X0 (mN M) ((0 : Int32)).toNatClampNeg 1) (mN M) ((1 : Int32)).toNatClampNeg 2) (mN M) ((2 : Int32)).toNatClampNeg 3) (mN M)) from l4 3 (by decide)), lw_S]
  have e5 : wI (wI (wI (wI X0 (mN M) ((0 : Int32)).toNatClampNeg 1) (mN M) ((1 : Int32)).toNatClampNeg 2) (mN M) ((2 : Int32)).toNatClampNeg 3) (mN M) ((3 : Int32)).toNatClampNeg 8 = X4 := hX4.symm
  rw [e5, show Int32.ofNat (mL X4 (mN M)) = nI 4 by rw [x4T.2, x0T.2]; rfl]
  exact e1
set_option maxRecDepth 50000 in
theorem w_761 (S : OB Z pg b o o' kb len F G np ng T B' M) (R10 : ARo b N a10 F 10 (fvA B) M) (hN : N ≤ mN M) (hG : G ≤ 8) (hF : F ≤ 8) {kc kn f : Nat} (hf : f < F) (hk : kc + 37 ≤ 600086 ∧ kn + 220 ≤ 7301442) (P : FCT B B' G c f) : ∃ M' kc' kn', b_L_law_761 Z M kc kn (some x) (some b) (nI F) (nI G) x6 x7 (some a10) (some a11) (some a12) x19 x20 x21 x23 (some a24) x25 (nI f) (fvA B' f 6) (fvA B' f 9 - fvA B f 9) (fvA B' f 7 - fvA B f 7) = some (.inl (M', kc', kn', x25, nI (f + 1))) ∧ kc' ≤ kc + 37 ∧ kn' ≤ kn + 220 ∧ OB Z pg b o o' kb len F G np ng T B' M' ∧ FW b (mN M) M M' := by
  have P0 := P
  obtain ⟨num, te, h, m, p1, p2, p3, p4, p5, p6, p7, p8, p9, p10, p11, p12, p13, p14, p15, p16⟩ := P
  have tb := (ob_b S).2
  obtain ⟨r, g1, g2, g3, g4, g5⟩ := ARo_g R10 hf (by omega) (by omega)
  have q4 : inb (4 : Int32) (mL M r) := g4 4 (by omega)
  have v4 : mI M r ((4 : Int32)).toNatClampNeg = fvA B f 4 := g5 4 (by omega)
  have q3 : inb (3 : Int32) (mL M r) := g4 3 (by omega)
  have v3 : mI M r ((3 : Int32)).toNatClampNeg = nI h := (g5 3 (by omega)).trans p7
  have a4 : f_X11_fisher M b (nI f) (4 : Int32) = some (.inr (fvA B' f 4), M) := ob_fisher S hf (c := 4) (by omega)
  have a5 : f_X11_fisher M b (nI f) (5 : Int32) = some (.inr (fvA B' f 5), M) := ob_fisher S hf (c := 5) (by omega)
  obtain ⟨M', kc', kn', e1, e2, e3, e4, e5⟩ := w_828 (x := x) (a10 := a10) (a11 := a11) (a12 := a12) (a24 := a24) (x6 := x6) (x7 := x7) (x19 := x19) (x20 := x20) (x21 := x21) (x23 := x23) (x25 := x25) (kc := kc + 2 + 2 + 2) (kn := kn + 12 + 12 + 12) S R10 hN hG hF hf ⟨by omega, by omega⟩ P0 p3 p4
  refine ⟨M', kc', kn', ?_, by omega, by omega, e4, e5⟩
  have n5 : ¬ fvA B' f 5 < 0 := by rw [p5]; exact nI_pos (by omega)
  unfold b_L_law_761
  rw [dr_S, ck_t tb, ck_t ⟨by omega, by omega⟩, bx_s a4, dr_S, ck_t R10.1, ck_t g1, dr_s g2, ck_t g3, ck_t q4, ck_t tb, ck_t ⟨by omega, by omega⟩, bx_s a5, v4, if_pos p6, ck_t tb, ck_t ⟨by omega, by omega⟩, bx_s a5, if_neg n5, p2, p3, if_neg (nI_pos (by omega)), ck_t R10.1, ck_t g1, dr_s g2, ck_t g3, ck_t q3, v3, if_neg (fun z => by have := (nI_ltI (by omega) (by omega)).mp z; omega)]
  rcases p1 with p1 | ⟨g, p1, p1'⟩
  · obtain ⟨z1, z2⟩ := p10 p1
    rw [p1, if_neg (by decide), z1, z2, if_neg (by decide), if_neg (by decide)]
    rw [z2] at e1
    exact e1
  · have g0 : (0 : Int32) ≤ nI g := (nI_leI (a := 0) (by omega) (by omega)).mpr (Nat.zero_le _)
    rw [p1', if_pos g0]
    exact e1
set_option maxRecDepth 50000 in
theorem w_680s (S : OB Z pg b o o' kb len F G np ng T B' M) (R10 : ARo b N a10 F 10 (fvA B) M) (hN : N ≤ a24) (hb24 : b + 178 ≤ a24) (R24 : mT M a24 = 20 ∧ mL M a24 = G ∧ a24 < mN M) (hG : G ≤ 8) (hF : F ≤ 8) {kc kn f : Nat} (V24 : ∀ g, g < G → mI M a24 g = nI (bnN B' g f)) (hf : f < F) (hk : kc + 45 ≤ 600086 ∧ kn + 268 ≤ 7301442) (P : FCT B B' G c f) : ∃ M' kc' kn', bb_L_law_680 Z M kc kn (some x) (some b) (nI F) (nI G) x6 x7 (some a10) (some a11) (some a12) x19 x20 x21 x23 (some a24) (nI (smN c f)) (nI f) = some (.inl (M', kc', kn', nI (smN c (f + 1)), nI (f + 1))) ∧ kc' ≤ kc + 45 ∧ kn' ≤ kn + 268 ∧ OB Z pg b o o' kb len F G np ng T B' M' ∧ FW b N M M' ∧ (mT M' a24 = 20 ∧ mL M' a24 = G ∧ a24 < mN M') ∧ ∀ g, g < G → mI M' a24 g = nI (bnN B' g (f + 1)) := by
  have P0 := P
  obtain ⟨num, te, h, m, p1, p2, p3, p4, p5, p6, p7, p8, p9, p10, p11, p12, p13, p14, p15, p16⟩ := P
  have tb := (ob_b S).2
  obtain ⟨r, g1, g2, g3, g4, g5⟩ := ARo_g R10 hf (by omega) (by omega)
  have q9 : inb (9 : Int32) (mL M r) := g4 9 (by omega)
  have v9 : mI M r ((9 : Int32)).toNatClampNeg = fvA B f 9 := g5 9 (by omega)
  have q7 : inb (7 : Int32) (mL M r) := g4 7 (by omega)
  have v7 : mI M r ((7 : Int32)).toNatClampNeg = fvA B f 7 := g5 7 (by omega)
  have a5 : f_X11_fisher M b (nI f) (5 : Int32) = some (.inr (fvA B' f 5), M) := ob_fisher S hf (c := 5) (by omega)
  have a6 : f_X11_fisher M b (nI f) (6 : Int32) = some (.inr (fvA B' f 6), M) := ob_fisher S hf (c := 6) (by omega)
  have a7 : f_X11_fisher M b (nI f) (7 : Int32) = some (.inr (fvA B' f 7), M) := ob_fisher S hf (c := 7) (by omega)
  have a9 : f_X11_fisher M b (nI f) (9 : Int32) = some (.inr (fvA B' f 9), M) := ob_fisher S hf (c := 9) (by omega)
  have e25 : nI (smN c f) + fvA B' f 5 = nI (smN c (f + 1)) := by rw [p5, nI_add]; rfl
  have bn : ∀ g, bnN B' g (f + 1) = bnN B' g f + if fvA B' f 6 = nI g then 1 else 0 := fun g => rfl
  have hbn : ∀ g, bnN B' g f ≤ f := by
    intro g
    have : ∀ n, smN (fun f => if fvA B' f 6 = nI g then 1 else 0) n ≤ n := by
      intro n
      induction n with
      | zero => exact Nat.le_refl _
      | succ n ih =>
        show smN _ n + (if fvA B' n 6 = nI g then 1 else 0) ≤ n + 1
        split <;> omega
    exact this f
  unfold bb_L_law_680
  rw [if_neg (fun z => by have := (nI_leI (by omega) (by omega)).mp z; omega), dr_S, ck_t tb, ck_t ⟨by omega, by omega⟩, bx_s a6, ck_t tb, ck_t ⟨by omega, by omega⟩, bx_s a9, dr_S, ck_t R10.1, ck_t g1, dr_s g2, ck_t g3, ck_t q9, ck_t tb, ck_t ⟨by omega, by omega⟩, bx_s a7, ck_t R10.1, ck_t g1, dr_s g2, ck_t g3, ck_t q7, ck_t tb, ck_t ⟨by omega, by omega⟩, bx_s a5, v9, v7, e25]
  rcases p1 with p1 | ⟨g, hg, p1⟩
  · obtain ⟨M', kc', kn', e1, e2, e3, e4, e5⟩ := w_761 (x := x) (a10 := a10) (a11 := a11) (a12 := a12) (a24 := a24) (x6 := x6) (x7 := x7) (x19 := x19) (x20 := x20) (x21 := x21) (x23 := x23) (x25 := nI (smN c (f + 1))) (kc := kc + 2 + 2 + 2 + 2) (kn := kn + 12 + 12 + 12 + 12) S R10 (by omega) hG hF hf ⟨by omega, by omega⟩ P0
    obtain ⟨w1, w2, w3, w4⟩ := e5.1 a24 R24.2.2 (.inr hb24)
    refine ⟨M', kc', kn', ?_, by omega, by omega, e4, FW_lo e5 (by omega), ⟨w1.trans R24.1, w2.trans R24.2.1, by have := e5.2; omega⟩, fun g hg => ?_⟩
    · rw [p1] at e1 ⊢
      rw [if_pos (by decide)]
      exact e1
    · rw [w3, V24 g hg, bn g, if_neg (fun z => by
        rw [p1] at z
        have h2 : ¬ nI g < 0 := nI_pos (by omega)
        rw [← z] at h2
        exact h2 (by decide)), Nat.add_zero]
  · obtain ⟨X, hX⟩ : ∃ X, X = wI M a24 g (nI (bnN B' g f) + 1) := ⟨_, rfl⟩
    have SX : OB Z pg b o o' kb len F G np ng T B' X := by rw [hX]; exact ob_I S hb24
    have FX : FW b N M X := by rw [hX]; exact FW_I hN
    have RX : ARo b N a10 F 10 (fvA B) X := ARo_f R10 FX (Nat.le_refl _)
    have XN : mN X = mN M := by rw [hX]; rfl
    obtain ⟨M', kc', kn', e1, e2, e3, e4, e5⟩ := w_761 (x := x) (a10 := a10) (a11 := a11) (a12 := a12) (a24 := a24) (x6 := x6) (x7 := x7) (x19 := x19) (x20 := x20) (x21 := x21) (x23 := x23) (x25 := nI (smN c (f + 1))) (kc := kc + 2 + 2 + 2 + 2) (kn := kn + 12 + 12 + 12 + 12) SX RX (by omega) hG hF hf ⟨by omega, by omega⟩ P0
    obtain ⟨w1, w2, w3, w4⟩ := e5.1 a24 (by omega) (.inr hb24)
    have ig : inb (nI g) (mL M a24) := by rw [R24.2.1]; exact (inbN (by omega)).mpr hg
    have ng : ¬ nI g < 0 := nI_pos (by omega)
    refine ⟨M', kc', kn', ?_, by omega, by omega, e4, FW_t FX (FW_lo e5 (by omega)), ⟨w1.trans (by rw [hX]; exact R24.1), w2.trans (by rw [hX]; exact R24.2.1), by have := e5.2; omega⟩, fun g' hg' => ?_⟩
    · have ex : wI M a24 (nI g).toNatClampNeg (mI M a24 (nI g).toNatClampNeg + 1) = X := by rw [nI_clamp (by omega), V24 g hg, hX]
      rw [p1] at e1 ⊢
      rw [if_neg ng, dr_S, ck_t R24.1, ck_t ig, ck_t ig, lw_S, ex]
      exact e1
    · rw [w3, bn g', p1, hX]
      by_cases y : g' = g
      · subst y
        rw [wI_e, if_pos rfl, nI_1]
      · rw [wI_o (.inr y), V24 g' hg', if_neg (fun z => y ((nI_eq (by omega) (by omega)).mp z).symm), Nat.add_zero]
end LAW
