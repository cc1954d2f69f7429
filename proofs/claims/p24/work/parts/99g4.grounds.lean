/-! ## Pure: the law's loop over the grounds, behind a tide -/
/-- what a tide did to a ground, as the law sees it -/
def GCT (B B' : Nat → Nat → Int32) (bt : Nat → Nat) (g0 : Nat) (em : Int32) (g : Nat) : Prop := ∃ tk lf fs rm : Nat, gvA B' g 8 - gvA B g 8 = nI tk ∧ gvA B g 0 - nI tk = nI lf ∧ gvA B' g 0 = nI fs ∧ gvA B' g 7 = nI (bt g) ∧ gvA B g 6 = nI rm ∧ gvA B' g 6 = nI rm ∧ bt g ≤ rm ∧ fs ≤ lf + lf / 6 ∧ lf ≤ fs + 99 ∧ tk < 10000 ∧ lf < 10000 ∧ rm < 10000 ∧ (∀ s, 1 ≤ s → s < 6 → ∃ a, a ≤ 99 ∧ gvA B' g s = nI a) ∧ (g = g0 → ¬ em ≤ 0 → (em = 1 ↔ nI fs = (0 : Int32)))
theorem lt_99 : ∀ l, l < 99 → nI l - (99 : Int32) < 0 := by decide +kernel
theorem no_99 {f l : Nat} (h : l ≤ f + 99) (hl : l < 10000) (hf : f < 100000) : ¬ nI f < nI l - (99 : Int32) := fun z => by
  by_cases c : l < 99
  · exact absurd (Int32.lt_trans z (lt_99 l c)) (nI_pos (by omega))
  · rw [show (99 : Int32) = nI 99 from rfl, nI_sub (by omega)] at z
    have := (nI_ltI (by omega) (by omega)).mp z
    omega
section LAW
variable {Z pg : Nat → Nat} {b o o' kb len F G np ng : Nat} {T : Nat → Nat} {M : gMem} {B B' : Nat → Nat → Int32} {ms : Nat → List Nat} {kd : Nat → Nat} {N0 N KC KN t x K a10 a11 a12 a24 : Nat} {M0 : gMem} {x4 x6 x7 x21 x23 : Int32} {bt : Nat → Nat}
set_option maxRecDepth 50000 in
theorem w_1164 (S : OB Z pg b o o' kb len F G np ng T B' M) (hG : G ≤ 8) {kc kn g g0 : Nat} {em : Int32} (hg : g < G) (hg0 : g0 < G) (hk : kc + 32 ≤ 600086 ∧ kn + 192 ≤ 7301442) (P : GCT B B' bt g0 em g) : lp_L_law_1164 Z M kc kn (some x) (some b) x4 (nI G) x6 x7 (some a10) (some a11) (some a12) (nI g0) em x21 x23 (some a24) (nI g) 0 1 = some (.inl (M, kc + 32, kn + 192, nI (g + 1))) := by
  obtain ⟨tk, lf, fs, rm, p1, p2, p3, p4, p5, p6, p7, p8, p9, p10, p11, p12, p13, p14⟩ := P
  have tb := (ob_b S).2
  have gv : ∀ j, j < 5 → gvA B' g (j + 1) = B' (19 + 2 * g) (j + 1) := fun j hj => by
    unfold gvA; rw [if_neg (by omega), if_pos (by omega)]
  have a0 : f_X11_ground M b (nI g) (0 : Int32) = some (.inr (sum5 (B' (19 + 2 * g)) 5), M) := ob_ground S hg (c := 0) (by omega)
  unfold lp_L_law_1164
  refine lp_seq (f := fun (q : gMem × Nat × Nat × Int32 × Int32) => bb_L_law_1164 Z q.1 q.2.1 q.2.2.1 (some x) (some b) x4 (nI G) x6 x7 (some a10) (some a11) (some a12) (nI g0) em x21 x23 (some a24) (nI g) q.2.2.2.1 q.2.2.2.2) (fun j => (M, kc + 6 * j, kn + 36 * j, sum5 (B' (19 + 2 * g)) j, nI (j + 1))) 0 5 (Nat.zero_le _) (fun j _ hj => ?_) ?_
  · show bb_L_law_1164 Z M (kc + 6 * j) (kn + 36 * j) (some x) (some b) x4 (nI G) x6 x7 (some a10) (some a11) (some a12) (nI g0) em x21 x23 (some a24) (nI g) (sum5 (B' (19 + 2 * g)) j) (nI (j + 1)) = some (.inl (M, kc + 6 * (j + 1), kn + 36 * (j + 1), sum5 (B' (19 + 2 * g)) (j + 1), nI (j + 1 + 1)))
    obtain ⟨v, v1, v2⟩ := p13 (j + 1) (by omega) (by omega)
    have av : f_X11_ground M b (nI g) (nI (j + 1)) = some (.inr (nI v), M) := by rw [← v2]; exact ob_ground S hg (by omega)
    have le99 : nI v ≤ (99 : Int32) := (nI_leI (b := 99) (by omega) (by omega)).mpr v1
    unfold bb_L_law_1164
    rw [if_neg (fun z => by have := (nI_leI (a := 6) (by omega) (by omega)).mp z; omega), dr_S, ck_t tb, ck_t ⟨by omega, by omega⟩, bx_s av, ck_t tb, ck_t ⟨by omega, by omega⟩, bx_s av, if_neg (nI_pos (by omega)), ck_t tb, ck_t ⟨by omega, by omega⟩, bx_s av, if_pos le99, nI_1]
    rw [← v2, gv j hj]
    rfl
  · show bb_L_law_1164 Z M (kc + 6 * 5) (kn + 36 * 5) (some x) (some b) x4 (nI G) x6 x7 (some a10) (some a11) (some a12) (nI g0) em x21 x23 (some a24) (nI g) (sum5 (B' (19 + 2 * g)) 5) (nI 6) = _
    have e0 : sum5 (B' (19 + 2 * g)) 5 = nI fs := p3
    unfold bb_L_law_1164 b_L_law_1251 b_L_law_1261 b_L_law_1266
    rw [if_pos (by decide), dr_S, ck_t tb, ck_t ⟨by omega, by omega⟩, bx_s a0, if_pos rfl, nI_1, e0]
    by_cases c : g = g0
    · rw [if_pos (by rw [c])]
      by_cases d : em ≤ 0
      · rw [if_pos d]; rfl
      · have q := p14 c d
        rw [if_neg d]
        by_cases e : em = 1
        · rw [if_pos e, if_pos (q.mp e), if_pos rfl]; rfl
        · rw [if_neg e, if_neg (fun z => e (q.mpr z)), if_pos rfl]; rfl
    · rw [if_neg (fun z => c ((nI_eq (by omega) (by omega)).mp z))]; rfl
set_option maxRecDepth 50000 in
theorem w_1009s (S : OB Z pg b o o' kb len F G np ng T B' M) (R11 : ARo b N a11 G 9 (gvA B) M) (R24 : RWo b N a24 G (fun g => nI (bt g)) M) (hG : G ≤ 8) {kc kn g g0 : Nat} {em : Int32} (hg : g < G) (hg0 : g0 < G) (hk : kc + 46 ≤ 600086 ∧ kn + 276 ≤ 7301442) (P : GCT B B' bt g0 em g) : ∃ kc' kn', bb_L_law_1009 Z M kc kn (some x) (some b) x4 (nI G) x6 x7 (some a10) (some a11) (some a12) (nI g0) em x21 x23 (some a24) (nI g) = some (.inl (M, kc', kn', nI (g + 1))) ∧ kc' ≤ kc + 46 ∧ kn' ≤ kn + 276 := by
  have P0 := P
  obtain ⟨tk, lf, fs, rm, p1, p2, p3, p4, p5, p6, p7, p8, p9, p10, p11, p12, p13, p14⟩ := P
  have tb := (ob_b S).2
  obtain ⟨r, g1, g2, g3, g4, g5⟩ := ARo_g R11 hg (by omega) (by omega)
  have t28 := R11.1
  obtain ⟨b1, b2, b3, b4, b5⟩ := R24
  have ib : inb (nI g) (mL M a24) := by rw [b2]; exact (inbN (by omega)).mpr hg
  have vb : mI M a24 (nI g).toNatClampNeg = nI (bt g) := by rw [nI_clamp (by omega)]; exact b5 g hg
  have q0 : inb (0 : Int32) (mL M r) := g4 0 (by omega)
  have q6 : inb (6 : Int32) (mL M r) := g4 6 (by omega)
  have q8 : inb (8 : Int32) (mL M r) := g4 8 (by omega)
  have v0 : mI M r ((0 : Int32)).toNatClampNeg = gvA B g 0 := g5 0 (by omega)
  have v6 : mI M r ((6 : Int32)).toNatClampNeg = nI rm := (g5 6 (by omega)).trans p5
  have v8 : mI M r ((8 : Int32)).toNatClampNeg = gvA B g 8 := g5 8 (by omega)
  have a0 : f_X11_ground M b (nI g) (0 : Int32) = some (.inr (nI fs), M) := by rw [← p3]; exact ob_ground S hg (c := 0) (by omega)
  have a6 : f_X11_ground M b (nI g) (6 : Int32) = some (.inr (nI rm), M) := by rw [← p6]; exact ob_ground S hg (c := 6) (by omega)
  have a7 : f_X11_ground M b (nI g) (7 : Int32) = some (.inr (nI (bt g)), M) := by rw [← p4]; exact ob_ground S hg (c := 7) (by omega)
  have a8 : f_X11_ground M b (nI g) (8 : Int32) = some (.inr (gvA B' g 8), M) := ob_ground S hg (c := 8) (by omega)
  have e6 : nI lf + nI lf / (6 : Int32) = nI (lf + lf / 6) := by rw [show (6 : Int32) = nI 6 from rfl, nI_div (by omega) (by omega), nI_add]
  have z0 : (nI lf = (0 : Int32)) ↔ lf = 0 := nI_eq (b := 0) (by omega) (by omega)
  have f0 : (nI fs = (0 : Int32)) ↔ fs = 0 := nI_eq (b := 0) (by omega) (by omega)
  unfold bb_L_law_1009
  rw [if_neg (fun z => by have := (nI_leI (by omega) (by omega)).mp z; omega), dr_S, ck_t tb, ck_t ⟨by omega, by omega⟩, bx_s a8, dr_S, ck_t t28, ck_t g1, dr_s g2, ck_t g3, ck_t q8, ck_t g1, ck_t q0, ck_t tb, ck_t ⟨by omega, by omega⟩, bx_s a7, dr_S, ck_t b1, ck_t ib, vb, if_pos rfl, ck_t ib, ck_t t28, ck_t g1, dr_s g2, ck_t g3, ck_t q6, v6, if_neg (fun z => by have := (nI_ltI (by omega) (by omega)).mp z; omega), ck_t tb, ck_t ⟨by omega, by omega⟩, bx_s a6, ck_t t28, ck_t g1, dr_s g2, ck_t g3, ck_t q6, v6, if_pos rfl, v8, v0, p1, p2, if_neg (nI_pos (by omega)), if_neg (nI_pos (by omega)), ck_t tb, ck_t ⟨by omega, by omega⟩, bx_s a0, e6, if_neg (fun z => by have := (nI_ltI (by omega) (by omega)).mp z; omega), ck_t tb, ck_t ⟨by omega, by omega⟩, bx_s a0, if_neg (no_99 p9 (by omega) (by omega))]
  unfold b_L_law_1158
  by_cases c : lf = 0
  · rw [if_pos (z0.mpr c), ck_t tb, ck_t ⟨by omega, by omega⟩, bx_s a0, if_pos (f0.mpr (by omega)), w_1164 S hG hg hg0 ⟨by omega, by omega⟩ P0]
    exact ⟨_, _, rfl, by omega, by omega⟩
  · rw [if_neg (fun z => c (z0.mp z)), w_1164 S hG hg hg0 ⟨by omega, by omega⟩ P0]
    exact ⟨_, _, rfl, by omega, by omega⟩
set_option maxRecDepth 50000 in
theorem w_1009 (S : OB Z pg b o o' (kb + 792) len F G np ng T B' M) (I : INV B' (kb + 792) G np ms) (R : ARo b N a12 np 7 (pvA B) M) (R10 : ARo b N a10 F 10 (fvA B) M) (R11 : ARo b N a11 G 9 (gvA B) M) (R24 : RWo b N a24 G (fun g => nI (bt g)) M) (Q : SHR b N0 x np K ms kd M) (hFW : FW b N0 M0 M) (hK : KC ≤ 600086 ∧ KN ≤ 7301442) {kc kn s g0 : Nat} {hd : Nat → Nat} {r em : Int32} (hk : kc + 416 ≤ KC ∧ kn + 2496 ≤ KN) (hs : s ≤ 792) (P : ∀ p, p < np → PCT B B' s hd ms p) (PG' : ∀ g, g < G → GCT B B' bt g0 em g) (hg0 : g0 < G) (hm : ∀ p, p < np → (ms p).length ≤ 8 ∧ ∀ k, k < (ms p).length → (ms p).getD k 0 < F) (hF : F ≤ 8) (hG : G ≤ 8) (hr : np = 0 → (∀ j, j < K → ¬ (kd j = 3 ∨ kd j = 7)) → r = 0) : RND Z pg b o o' (kb + 792) len F G np ng T ms N0 KC KN t M0 (lp_L_law_1009 Z M kc kn (some x) (some b) x4 (nI G) (nI np) (nI t) (some a10) (some a11) (some a12) (nI g0) em r (nI s) (some a24) 0) := by
  obtain ⟨q, ⟨kc', kn', rfl, f1, f2⟩, hlp⟩ := lp_ex (f := fun (q : gMem × Nat × Nat × Int32) => bb_L_law_1009 Z q.1 q.2.1 q.2.2.1 (some x) (some b) x4 (nI G) (nI np) (nI t) (some a10) (some a11) (some a12) (nI g0) em r (nI s) (some a24) q.2.2.2)
    (fun g q => ∃ kc' kn', q = (M, kc', kn', nI g) ∧ kc' ≤ kc + 46 * g ∧ kn' ≤ kn + 276 * g) G (fun g q hg hq => by
      obtain ⟨kc', kn', rfl, f1, f2⟩ := hq
      obtain ⟨kc2, kn2, e1, e2, e3⟩ := w_1009s (x := x) (a10 := a10) (a12 := a12) (x4 := x4) (x6 := nI np) (x7 := nI t) (x21 := r) (x23 := nI s) (kc := kc') (kn := kn') S R11 R24 hG hg hg0 ⟨by omega, by omega⟩ (PG' g hg)
      exact ⟨_, e1, kc2, kn2, rfl, by omega, by omega⟩) G 0 (M, kc, kn, nI 0) (by omega) ⟨kc, kn, rfl, Nat.le_refl _, Nat.le_refl _⟩
  have W := w_1278 (x4 := x4) (x5 := nI G) (t := t) (kc := kc') (kn := kn') (s := s) (r := r) S I R R10 Q hFW hK ⟨by omega, by omega⟩ hs P hm hF hr
  unfold lp_L_law_1009
  have hlp' : lp (fun (q : gMem × Nat × Nat × Int32) => bb_L_law_1009 Z q.1 q.2.1 q.2.2.1 (some x) (some b) x4 (nI G) (nI np) (nI t) (some a10) (some a11) (some a12) (nI g0) em r (nI s) (some a24) q.2.2.2) (M, kc, kn, (0 : Int32)) = _ := hlp
  rw [hlp']
  have key : lp (fun (q : gMem × Nat × Nat × Int32) => bb_L_law_1009 Z q.1 q.2.1 q.2.2.1 (some x) (some b) x4 (nI G) (nI np) (nI t) (some a10) (some a11) (some a12) (nI g0) em r (nI s) (some a24) q.2.2.2) (M, kc', kn', nI G) = lp_L_law_1278 Z M kc' kn' (some x) (some b) x4 (nI G) (nI np) (nI t) (some a10) (some a12) r (nI s) 0 0 := by
    refine lp_oI ?_
    show bb_L_law_1009 Z M kc' kn' (some x) (some b) x4 (nI G) (nI np) (nI t) (some a10) (some a11) (some a12) (nI g0) em r (nI s) (some a24) (nI G) = _
    unfold bb_L_law_1009
    rw [if_pos ((nI_leI (by omega) (by omega)).mpr (Nat.le_refl _))]
  rw [key]
  exact W
end LAW
