/-! ## Pure: the law passes a tide and looks at all -/
theorem gap_c {A A' : Nat → Nat → Int32} {F : Nat} (h : ∀ i, i < F → A (34 + 2 * i) 4 = A' (34 + 2 * i) 4) : gapV A F = gapV A' F := by
  cases F with
  | zero => rfl
  | succ n =>
    show maxN _ n - minN _ n = maxN _ n - minN _ n
    obtain ⟨m1, m2⟩ := minN_c (f := fun i => A (34 + 2 * i) 4) (h := fun i => A' (34 + 2 * i) 4) n (fun i hi => h i (by omega))
    rw [m1, m2]
section LAW
variable {Z pg : Nat → Nat} {b o o' kb len F G np ng : Nat} {T : Nat → Nat} {M : gMem} {B B' : Nat → Nat → Int32} {ms : Nat → List Nat} {kd : Nat → Nat} {N0 N KC KN t x K a10 a11 a12 a18 a24 : Nat} {M0 : gMem} {x8 x9 : Int32} {c : Nat → Nat}
set_option maxRecDepth 50000 in
theorem w_680 (S : OB Z pg b o o' (kb + 792) len F G np ng T B' M) (I : INV B' (kb + 792) G np ms) (R : ARo b N a12 np 7 (pvA B) M) (R10 : ARo b N a10 F 10 (fvA B) M) (R11 : ARo b N a11 G 9 (gvA B) M) (R24 : mT M a24 = 20 ∧ mL M a24 = G ∧ a24 < mN M) (V24 : ∀ g, g < G → mI M a24 g = 0) (hN : N ≤ a24) (hN0 : N0 ≤ N) (hb24 : b + 178 ≤ a24) (Q : SHR b N0 x np K ms kd M) (hFW : FW b N0 M0 M) (hK : KC ≤ 600086 ∧ KN ≤ 7301442) {kc kn s g0 : Nat} {hd : Nat → Nat} {r em : Int32} (hk : kc + 776 ≤ KC ∧ kn + 4640 ≤ KN) (P : TDF B B' F G np g0 em s c hd ms) (hg0 : g0 < G) (hm : ∀ p, p < np → (ms p).length ≤ 8 ∧ ∀ k, k < (ms p).length → (ms p).getD k 0 < F) (hF : F ≤ 8) (hG : G ≤ 8) (hr : np = 0 → (∀ j, j < K → ¬ (kd j = 3 ∨ kd j = 7)) → r = 0) : RND Z pg b o o' (kb + 792) len F G np ng T ms N0 KC KN t M0 (lp_L_law_680 Z M kc kn (some x) (some b) (nI F) (nI G) (nI np) (nI t) (some a10) (some a11) (some a12) (nI g0) em r (nI s) (some a24) 0 0) := by
  obtain ⟨P1, P2, P3, P4, P5⟩ := P
  obtain ⟨q, ⟨M', kc', kn', rfl, f1, f2, f3, f4, f5, f6⟩, hlp⟩ := lp_ex (f := fun (q : gMem × Nat × Nat × Int32 × Int32) => bb_L_law_680 Z q.1 q.2.1 q.2.2.1 (some x) (some b) (nI F) (nI G) (nI np) (nI t) (some a10) (some a11) (some a12) (nI g0) em r (nI s) (some a24) q.2.2.2.1 q.2.2.2.2)
    (fun f q => ∃ M' kc' kn', q = (M', kc', kn', nI (smN c f), nI f) ∧ kc' ≤ kc + 45 * f ∧ kn' ≤ kn + 268 * f ∧ OB Z pg b o o' (kb + 792) len F G np ng T B' M' ∧ FW b N M M' ∧ (mT M' a24 = 20 ∧ mL M' a24 = G ∧ a24 < mN M') ∧ ∀ g, g < G → mI M' a24 g = nI (bnN B' g f)) F (fun f q hf hq => by
      obtain ⟨M', kc', kn', rfl, f1, f2, f3, f4, f5, f6⟩ := hq
      obtain ⟨M2, kc2, kn2, e1, e2, e3, e4, e5, e6, e7⟩ := w_680s (x := x) (a11 := a11) (a12 := a12) (x6 := nI np) (x7 := nI t) (x19 := nI g0) (x20 := em) (x21 := r) (x23 := nI s) (kc := kc') (kn := kn') f3 (ARo_f R10 f4 (Nat.le_refl _)) hN hb24 f5 hG hF f6 hf ⟨by omega, by omega⟩ (P1 f hf)
      exact ⟨_, e1, M2, kc2, kn2, rfl, by omega, by omega, e4, FW_t f4 e5, e6, e7⟩) F 0 (M, kc, kn, nI 0, nI 0) (by omega) ⟨M, kc, kn, rfl, Nat.le_refl _, Nat.le_refl _, S, FW_r _ _ _, R24, fun g hg => V24 g hg⟩
  have W := w_1009 (N := a24 + 1) (x4 := nI F) (t := t) (kc := kc') (kn := kn') (s := s) (r := r) (em := em) f3 I (ARo_N (ARo_f R f4 (Nat.le_refl _)) (by omega)) (ARo_N (ARo_f R10 f4 (Nat.le_refl _)) (by omega)) (ARo_N (ARo_f R11 f4 (Nat.le_refl _)) (by omega)) (⟨f5.1, f5.2.1, .inr hb24, Nat.lt_succ_self _, f6⟩ : RWo b (a24 + 1) a24 G (fun g => nI (bnN B' g F)) M') (SHR_f Q f4 hN0) (FW_t hFW (FW_lo f4 hN0)) hK ⟨by omega, by omega⟩ P3 P5 P4 hg0 hm hF hG hr
  unfold lp_L_law_680
  have hlp' : lp (fun (q : gMem × Nat × Nat × Int32 × Int32) => bb_L_law_680 Z q.1 q.2.1 q.2.2.1 (some x) (some b) (nI F) (nI G) (nI np) (nI t) (some a10) (some a11) (some a12) (nI g0) em r (nI s) (some a24) q.2.2.2.1 q.2.2.2.2) (M, kc, kn, (0 : Int32), (0 : Int32)) = _ := hlp
  rw [hlp']
  have key : lp (fun (q : gMem × Nat × Nat × Int32 × Int32) => bb_L_law_680 Z q.1 q.2.1 q.2.2.1 (some x) (some b) (nI F) (nI G) (nI np) (nI t) (some a10) (some a11) (some a12) (nI g0) em r (nI s) (some a24) q.2.2.2.1 q.2.2.2.2) (M', kc', kn', nI (smN c F), nI F) = lp_L_law_1009 Z M' kc' kn' (some x) (some b) (nI F) (nI G) (nI np) (nI t) (some a10) (some a11) (some a12) (nI g0) em r (nI s) (some a24) 0 := by
    refine lp_oI ?_
    show bb_L_law_680 Z M' kc' kn' (some x) (some b) (nI F) (nI G) (nI np) (nI t) (some a10) (some a11) (some a12) (nI g0) em r (nI s) (some a24) (nI (smN c F)) (nI F) = _
    unfold bb_L_law_680
    rw [if_pos ((nI_leI (by omega) (by omega)).mpr (Nat.le_refl _)), P2, if_pos rfl]
  rw [key]
  exact W
set_option maxRecDepth 50000 in
theorem w_576 (S : OB Z pg b o o' kb len F G np ng T B M) (I : INV B kb G np ms) (R : ARo b N a12 np 7 (pvA B) M) (R10 : ARo b N a10 F 10 (fvA B) M) (R11 : ARo b N a11 G 9 (gvA B) M) (R18 : RWo b N a18 3 (fun c => frV (tideA pg len np ng F G B) F G c) M) (hNm : N ≤ mN M) (hN0 : N0 ≤ N) (Q : SHR b N0 x np K ms kd M) (hFW : FW b N0 M0 M) (hK : KC ≤ 600086 ∧ KN ≤ 7301442) (hkb : kb < 2 ^ 30) {kc kn g0 : Nat} {r em s0 : Int32} (hk : kc + 790 ≤ KC ∧ kn + 4700 ≤ KN) (hg0 : g0 < G) (hem : em = emV (fun j => sum5 (tidesA pg len np ng F G B j (19 + 2 * g0)) 5) 101 0) (hm : ∀ p, p < np → (ms p).length ≤ 8 ∧ ∀ k, k < (ms p).length → (ms p).getD k 0 < F) (hr : np = 0 → (∀ j, j < K → ¬ (kd j = 3 ∨ kd j = 7)) → r = 0) : RND Z pg b o o' (kb + 792) len F G np ng T ms N0 KC KN t M0 (b_L_law_576 Z M kc kn (some x) (some b) (nI F) (nI G) (nI np) (nI t) (some a10) (some a11) (some a12) (B 0 0) (cvA B F G 0 6) (some a18) (nI g0) em r s0 s0) := by
  obtain ⟨W, D, V⟩ := ob_W S
  have hF : F ≤ 8 := W.2.2.2.1
  have hG : G ≤ 8 := W.2.1
  have tb := (ob_b S).2
  have hbN := (ob_b S).1
  obtain ⟨v, bl1, bl2⟩ := ob_blame S hg0
  have lF : v < nI F := by
    rcases bl2 with e | ⟨i, i1, e⟩
    · rw [e]; exact Int32.lt_of_lt_of_le (by decide : (-1 : Int32) < 0) ((nI_leI (a := 0) (by omega) (by omega)).mpr (Nat.zero_le _))
    · rw [e]; exact (nI_ltI (by omega) (by omega)).mpr i1
  obtain ⟨X, B', e1, S', C', hB⟩ := ob_pass S
  have F' : FW b N M X := FW_c C'
  have hem2 : ¬ em ≤ 0 → (em = 1 ↔ gvA B' g0 0 = 0) := fun z => by
    have := (emV_0 (fz := fun j => sum5 (tidesA pg len np ng F G B j (19 + 2 * g0)) 5)).2
    rw [← hem] at this
    have q := this (Int32.not_le.mp z)
    rw [(gv_c (A := B') (g := g0)).1, hB _ (by omega) (by omega)]
    exact q
  obtain ⟨I', t0, s, c, hd, t1, P⟩ := tdf_ok S S' hB I hkb hm hem2
  have P3 := P.2.2.1
  rw [t1] at e1
  have tbX : mT X b = 10 := (ob_b S').2
  have R18' := RWo_f R18 F' (Nat.le_refl _)
  obtain ⟨r1, r2, r3, r4, r5⟩ := R18'
  have ib : ∀ c, c < 3 → inb (nI c) (mL X a18) := fun c hc => by rw [r2]; exact (inbN (by omega)).mpr hc
  have st : ∀ i, i < F → B' (34 + 2 * i) 4 = tideA pg len np ng F G B (34 + 2 * i) 4 := fun i hi => by rw [hB _ (by omega) (by omega)]
  have c0 : f_X11_count X b (0 : Int32) = some (.inr (B' 0 0), X) := ob_count S' (c := 0) (by omega)
  have c6 : f_X11_count X b (6 : Int32) = some (.inr (sumN (fun i => tideA pg len np ng F G B (34 + 2 * i) 4) F), X) := by
    have this : f_X11_count X b (6 : Int32) = _ := ob_count S' (c := 6) (by omega)
    rw [this]
    congr 3
    exact sumN_c F st
  have c5 : f_X11_count X b (5 : Int32) = some (.inr (sumN (fun i => sum5 (tideA pg len np ng F G B (19 + 2 * i)) 5) G), X) := by
    have this : f_X11_count X b (5 : Int32) = _ := ob_count S' (c := 5) (by omega)
    rw [this]
    congr 3
    exact sumN_c G (fun i hi => by rw [hB _ (by omega) (by omega)])
  have gp : f_X11_gap X b = some (gapV (tideA pg len np ng F G B) F, X) := by rw [ob_gap S', gap_c st]
  have v0 : mI X a18 ((0 : Int32)).toNatClampNeg = sumN (fun i => tideA pg len np ng F G B (34 + 2 * i) 4) F := r5 0 (by omega)
  have v1 : mI X a18 ((1 : Int32)).toNatClampNeg = sumN (fun i => sum5 (tideA pg len np ng F G B (19 + 2 * i)) 5) G := r5 1 (by omega)
  have v2 : mI X a18 ((2 : Int32)).toNatClampNeg = gapV (tideA pg len np ng F G B) F := r5 2 (by omega)
  have x14 : sumN (fun i => tideA pg len np ng F G B (34 + 2 * i) 4) F = cvA B F G 0 6 + nI s := by
    have := inc_st (pg := pg) (len := len) W D 1
    rw [t1] at this
    exact this
  obtain ⟨X0, hX0⟩ : ∃ X0, X0 = nW X 20 G := ⟨_, rfl⟩
  have F0 : FW b (mN X) X X0 := by rw [hX0]; exact FW_n (Nat.le_refl _)
  have XN : mN M ≤ mN X := F'.2
  have S0 : OB Z pg b o o' (kb + 792) len F G np ng T B' X0 := by rw [hX0]; exact ob_n S'
  have FN : FW b N M X0 := FW_t F' (FW_lo F0 (by omega))
  have W680 := w_680 (t := t) (kc := kc + 1 + 1 + 1 + 1 + 1 + 1 + 0 + 1) (kn := kn + 6 + 6 + 6 + 6 + 6 + 6 + 0 + 8) (a24 := mN X) S0 I' (ARo_f R FN (Nat.le_refl _)) (ARo_f R10 FN (Nat.le_refl _)) (ARo_f R11 FN (Nat.le_refl _)) (by rw [hX0]; exact ⟨up1_e _ _ _, up1_e _ _ _, Nat.lt_succ_self _⟩) (fun g hg => by rw [hX0]; exact congrFun (up1_e _ _ _) g) (by omega) hN0 (by omega) (SHR_f Q FN hN0) (FW_t hFW (FW_lo FN hN0)) hK ⟨by omega, by omega⟩ P hg0 hm hF hG hr
  have kcn : ∀ a d : Nat, a ≤ 790 → d ≤ 4700 → kc + a ≤ 600086 ∧ kn + d ≤ 7301442 := fun a d ha hd => by omega
  have e1' : f_X11_pass Z M b (1 : Int32) = some (.inr (nI s), X) := e1
  unfold b_L_law_576
  rw [if_pos rfl, dr_S, ck_t tb, ck_t (by omega), bx_s bl1, if_pos lF, ck_t tb, ck_t (by omega), bx_s e1', ck_t tbX, ck_t (by omega), bx_s c0, if_pos t0, if_neg (nI_pos (by omega)), ck_t tbX, ck_t (by omega), bx_s c6, if_pos x14, ck_t tbX, ck_t (by omega), bx_s c6, dr_S, ck_t r1, ck_t (show inb (0 : Int32) (mL X a18) from ib 0 (by omega)), v0, if_pos rfl, ck_t tbX, ck_t (by omega), bx_s c5, ck_t r1, ck_t (show inb (1 : Int32) (mL X a18) from ib 1 (by omega)), v1, if_pos rfl, ck_t tbX, ck_t (by omega), bd_s gp, ck_t r1, ck_t (show inb (2 : Int32) (mL X a18) from ib 2 (by omega)), v2, if_pos rfl, ck_t (nI_pos (by omega)), nI_clamp (by omega), ck_t hG, ck_t (by omega), lw_S, ← hX0]
  exact W680
set_option maxRecDepth 50000 in
theorem w_561 (S : OB Z pg b o o' kb len F G np ng T B M) (I : INV B kb G np ms) (R : ARo b N a12 np 7 (pvA B) M) (R10 : ARo b N a10 F 10 (fvA B) M) (R11 : ARo b N a11 G 9 (gvA B) M) (R18 : RWo b N a18 3 (fun c => frV (tideA pg len np ng F G B) F G c) M) (hNm : N ≤ mN M) (hN0 : N0 ≤ N) (Q : SHR b N0 x np K ms kd M) (hFW : FW b N0 M0 M) (hK : KC ≤ 600086 ∧ KN ≤ 7301442) (hkb : kb < 2 ^ 30) {kc kn g0 : Nat} {r em : Int32} (hk : kc + 790 ≤ KC ∧ kn + 4700 ≤ KN) (hg0 : g0 < G) (hem : em = emV (fun j => sum5 (tidesA pg len np ng F G B j (19 + 2 * g0)) 5) 101 0) (hm : ∀ p, p < np → (ms p).length ≤ 8 ∧ ∀ k, k < (ms p).length → (ms p).getD k 0 < F) (hr : np = 0 → (∀ j, j < K → ¬ (kd j = 3 ∨ kd j = 7)) → r = 0) : RND Z pg b o o' (kb + 792) len F G np ng T ms N0 KC KN t M0 (b_L_law_561 Z M kc kn (some x) (some b) (nI F) (nI G) (nI np) (nI t) (some a10) (some a11) (some a12) (B 0 0) (cvA B F G 0 6) (some a18) (nI g0) em r (if em = 0 then 1 else 0)) := by
  obtain ⟨W, D, V⟩ := ob_W S
  have hG : G ≤ 8 := W.2.1
  obtain ⟨w, g1, g2, g3, g4, g5⟩ := ARo_g R11 hg0 (by omega) (by omega)
  have q0 : inb (0 : Int32) (mL M w) := g4 0 (by omega)
  have v0 : mI M w ((0 : Int32)).toNatClampNeg = gvA B g0 0 := g5 0 (by omega)
  have e0 : em = 0 ↔ gvA B g0 0 = 0 := by
    have := (emV_0 (fz := fun j => sum5 (tidesA pg len np ng F G B j (19 + 2 * g0)) 5)).1
    rw [← hem] at this
    exact this
  unfold b_L_law_561
  rw [dr_S, ck_t R11.1, ck_t g1, dr_s g2, ck_t g3, ck_t q0, v0]
  by_cases z : em = 0
  · rw [if_pos z, if_pos (e0.mp z)]
    exact w_576 S I R R10 R11 R18 hNm hN0 Q hFW hK hkb hk hg0 hem hm hr
  · rw [if_neg z, if_neg (fun y => z (e0.mpr y))]
    exact w_576 S I R R10 R11 R18 hNm hN0 Q hFW hK hkb hk hg0 hem hm hr
end LAW
