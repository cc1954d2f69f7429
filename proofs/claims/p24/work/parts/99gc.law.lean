/-! ## Pure: the law says yes -/
theorem lw_bd {Z : Nat → Nat} (M : gMem) : ∃ M' v, f_J4_init_da8c8 Z (nW M 13 0) (mN M) = some ((), M') ∧ SBv (mN M) v [] M' ∧ (∀ c, c < mN M → SM5 M M' c) ∧ mN M ≤ mN M' := by
  obtain ⟨M', e, S, F⟩ := b_new (Z := Z) (M := M) (fun u M' => some (u, M'))
  rw [lw_S] at e
  obtain ⟨-, v, S⟩ := S
  have k : (∀ c, c < mN M → SM5 M M' c) ∧ mN M ≤ mN M' := ⟨fun c hc => by
    obtain ⟨x1, x2, x3, x4, x5⟩ := F.1 c hc
    exact ⟨x1, x2, x4, x5, x3⟩, F.2⟩
  cases h : f_J4_init_da8c8 Z (nW M 13 0) (mN M) with
  | none => rw [h] at e; cases e
  | some r =>
    obtain ⟨u, M2⟩ := r
    rw [h, bd_S] at e
    have e' : some (u, M2) = some ((), M') := e
    cases e'
    exact ⟨_, v, rfl, S, k⟩
set_option maxRecDepth 100000 in
theorem law_f {Z : Nat → Nat} {Bd : Nat} {M : gMem} (hZ : ZHy Z Bd) (hB : Bd ≤ mN M) (hZi : ∀ a b : Nat, a < 45 → b < 45 → Z a = Z b → a = b) : ∃ M', f_L_law Z M = some (.inr (1 : Int32), M') := by
  obtain ⟨M1, v, e1, S1, k1, n1⟩ := lw_bd (Z := Z) M
  obtain ⟨M2, gl, fl, ol, pl, e2, hg, hf, ho, hp, g1, f1, o1, p1, BS2, GO2, MB2, m5⟩ := shore_f (a := mN M) hZ (Nat.le_trans hB n1) ⟨v, S1⟩
  obtain ⟨a, ha⟩ : ∃ a, a = mN M := ⟨_, rfl⟩
  obtain ⟨x, hx⟩ : ∃ x, x = mN M1 := ⟨_, rfl⟩
  rw [← ha] at e1 e2 BS2
  rw [← hx] at e2 BS2 GO2 MB2 m5
  obtain ⟨t, ht⟩ : ∃ t, t = gTs 0 gl ++ fTs 0 fl ++ oTs 0 ol ++ pTs fl.length 0 pl := ⟨_, rfl⟩
  obtain ⟨ls, tv, LS, l375, l21, wa, wf, w19⟩ := text_ls hg.2 hf.2 ho hp g1 f1 o1 p1
  rw [← ht] at LS BS2
  obtain ⟨⟨v2, SB2⟩, lt, SM2⟩ := BS2
  obtain ⟨b, hb⟩ : ∃ b, b = mN M2 := ⟨_, rfl⟩
  obtain ⟨X, e3, nX, kX, CX, -, -⟩ := X11_new (Z := Z) (M := M2) (b := b) hb.symm
  have xb : x + 52 ≤ b := by rw [hb]; exact SM2.2.1
  have SBX : SBv a v2 t X := by
    obtain ⟨⟨t1, r1, c1, n1⟩, ⟨t2, l1, l2⟩, ⟨o1, o2⟩, b1, b2⟩ := SB2
    obtain ⟨x1, x2, x3, x4⟩ := kX a (by omega)
    obtain ⟨y1, y2, y3, y4⟩ := kX v2 (by omega)
    exact ⟨⟨x1.trans t1, by rw [x3]; exact r1, by rw [x4]; exact c1, by rw [x4]; exact n1⟩, ⟨y1.trans t2, by rw [y2]; exact l1, by rw [y2]; exact l2⟩, ⟨o1, by omega⟩, fun i hi => by rw [y4]; exact b1 i hi, fun i hi => by rw [y4]; exact b2 i (by rw [← y2]; exact hi)⟩
  obtain ⟨Y, e4, QY, FY, nY⟩ := sb_str (Z := Z) SBX
  have yX : ∀ c, c < mN X → mT Y c = mT X c ∧ mL Y c = mL X c ∧ mI Y c = mI X c ∧ mR Y c = mR X c := fun c hc => by
    obtain ⟨x1, x2, x3, x4, x5⟩ := FY.1 c hc
    exact ⟨x1, x2, x4, x5⟩
  have CY : ∀ T, CIv b (b + 6) (b + 92) 0 T Y := fun T => CIv_g (CX T) (fun c hc => ⟨(yX c (by omega)).1, (yX c (by omega)).2.1, (yX c (by omega)).2.2.2⟩) (fun c h1 h2 => (yX c (by omega)).2.2.1) (by rw [(yX (b + 1) (by omega)).2.2.1]; exact (CX T).2.2.1.2.2.1) (by omega) (fun q hq => absurd hq (Nat.not_lt_zero _)) (by omega)
  obtain ⟨pg, len, ng, V, e5, PV, DV, TV, nV, NV, tV, kV⟩ := taught_f CY hZi QY (by omega) (by omega) LS l21 (by omega) wa (F := fl.length) (G := gl.length) (np := pl.length) (by rw [wf]; exact nmR_l _ _) (by rw [wf]; exact nmR_l _ _) (by rw [wf]; exact nmR_l _ _)
  -- the object
  obtain ⟨B, hBB⟩ : ∃ B, B = nz (cutF 86 (b + 92) V) := ⟨_, rfl⟩
  have OBV : OB Z pg b (b + 92) (b + 6) 0 len fl.length gl.length pl.length ng (txF t) B V := ⟨PV, hBB.symm⟩
  have hp6 : pl.length ≤ 6 := by omega
  have bR : ∀ d, (d < 8 ∨ 11 < d) → B d = cutF 86 (b + 92) V d := fun d hd => by rw [hBB]; exact nz_e hd
  obtain ⟨ms, hms⟩ : ∃ ms : Nat → List Nat, ms = fun p => (pl.map (fun y => mdL y.2.1 fl.length y.2.2.1)).getD p [] := ⟨_, rfl⟩
  have msE : ∀ p (h : p < pl.length), ms p = mdL (pl[p]).2.1 fl.length (pl[p]).2.2.1 := fun p h => by
    rw [hms]
    show (pl.map (fun y => mdL y.2.1 fl.length y.2.2.1)).getD p [] = _
    rw [List.getD_eq_getElem?_getD, List.getElem?_map, List.getElem?_eq_getElem h]; rfl
  have pO : ∀ p (h : p < pl.length), pOk fl.length gl.length (pl[p]) := fun p h => p1 _ (List.getElem_mem h)
  have hm : ∀ p, p < pl.length → (ms p).length ≤ 8 ∧ ∀ k, k < (ms p).length → (ms p).getD k 0 < fl.length := fun p h => by
    have h0 := (pO p h).2.2.1
    rw [msE p h, mdL_l]
    exact ⟨by omega, fun k hk => by rw [mdL_g _ k hk]; exact Nat.mod_lt _ (by omega)⟩
  have IV : INV B 0 gl.length pl.length ms := by
    obtain ⟨i1, i2, i3⟩ := TV
    rw [wf] at i1 i2 i3
    simp only [nmR_l] at i1 i2 i3
    refine ⟨fun g hg => by rw [bR _ (by omega)]; exact i1 g hg, fun p hp n hn en i j hi hj => ?_, fun p hp => ?_⟩
    · rw [bR (74 + 2 * p) (by omega)] at en
      rw [bR (75 + 2 * p) (by omega)]
      exact DV p hp n hn en i j hi hj
    · obtain ⟨j1, j2, j3, j4⟩ := i3 p hp
      have em : (pl.map (fun y => mdL y.2.1 fl.length y.2.2.1)).getD p [] = ms p := by rw [hms]
      rw [em] at j1 j2 j3
      rw [bR (74 + 2 * p) (by omega), bR (75 + 2 * p) (by omega)]
      exact ⟨⟨0, Nat.le_refl _, j4 5 (by omega) (by omega)⟩, fun _ => j4 5 (by omega) (by omega), j1, j2, fun k hk => (j3 k hk).1⟩
  -- the shore by hand, behind it
  have low : ∀ c, c < b → mT V c = mT M2 c ∧ mL V c = mL M2 c ∧ mI V c = mI M2 c ∧ mR V c = mR M2 c := fun c hc => by
    obtain ⟨x1, x2, x3, x4⟩ := kX c hc
    obtain ⟨y1, y2, y3, y4⟩ := yX c (by omega)
    obtain ⟨z1, z2⟩ := tV c (by omega)
    obtain ⟨w1, w2, w3⟩ := kV c (by omega) (.inl hc)
    exact ⟨z1.trans (y1.trans x1), z2.trans (y2.trans x2), w1.trans (y3.trans x4), w2.trans (y4.trans x3)⟩
  obtain ⟨kd, hkd⟩ : ∃ kd : Nat → Nat, kd = fun j => ((ol[j]?).map (fun y => y.2.2.1)).getD 0 := ⟨_, rfl⟩
  have kdE : ∀ j (h : j < ol.length), kd j = (ol[j]).2.2.1 := fun j h => by
    rw [hkd]
    show ((ol[j]?).map (fun y => y.2.2.1)).getD 0 = _
    rw [List.getElem?_eq_getElem h]; rfl
  have SH : SHR b (mN V) x pl.length ol.length ms kd V := by
    obtain ⟨q1, q2, ⟨q3, q4, q5, q6, q7⟩, -, -, ⟨q8, q9⟩, -, q10, q11⟩ := SM2
    have bV : b ≤ mN V := by omega
    refine ⟨⟨(low x (by omega)).1.trans q1, xb, by omega, by rw [(low x (by omega)).2.2.1]; exact m5, by omega, by rw [(low x (by omega)).2.2.2]; exact q5, by rw [(low x (by omega)).2.2.2]; exact q7⟩, ⟨(low (x + 19) (by omega)).1.trans q8, (low (x + 19) (by omega)).2.1.trans q9, (low (x + 51) (by omega)).1.trans q10, (low (x + 51) (by omega)).2.1.trans q11, hp6⟩, fun j hj => ?_, fun p hp => ?_⟩
    · obtain ⟨w, w1, ⟨w2, w3, w4, w5⟩, w6⟩ := GO2 j hj
      have wb : w < b := by omega
      have ok := (o1 _ (List.getElem_mem hj)).2.2.1
      exact ⟨w, by rw [(low (x + 19) (by omega)).2.2.2]; exact w1, (low w wb).1.trans w2, (low w wb).2.1.trans w3, wb, by omega, by rw [kdE j hj]; exact ok, by rw [(low w wb).2.2.1, kdE j hj]; exact w6⟩
    · obtain ⟨w, w1, ⟨w2, w3, w4, w5⟩, w6⟩ := MB2 p hp
      have wb : w < b := by omega
      refine ⟨w, by rw [(low (x + 51) (by omega)).2.2.2]; exact w1, (low w wb).1.trans w2, ?_, wb, by omega, fun k hk => ?_⟩
      · rw [(low w wb).2.1, w3, msE p hp, mdL_l]
      · rw [msE p hp, mdL_l] at hk
        rw [(low w wb).2.2.1, w6 k hk, msE p hp, mdL_g _ k hk]
  have hr : pl.length = 0 → (∀ j, j < ol.length → ¬ (kd j = 3 ∨ kd j = 7)) → ∀ i, i < len → ¬ gSw (pg i) = 7 := fun _ h2 => by
    rcases w19 with ⟨y, y1, y2⟩ | w19
    · obtain ⟨j, hj, ej⟩ := List.getElem_of_mem y1
      exact absurd (by rw [kdE j hj, ej]; exact y2) (h2 j hj)
    · exact nV w19
  have kcs : ∀ p : Prop, p → p := fun _ h => h
  obtain ⟨M', eL⟩ := w_lp59 (kc := 0 + 1 + 1 + 800 + 1 + 187 + 2 + 300 + 1 + 1 + 1) (kn := 0 + 4 + 16 + 1200000 + 4 + 75243 + 2404 + 3000 + 6 + 6 + 6) OBV IV SH ⟨by omega, by omega⟩ (show 0 < fl.length by omega) (show 0 < gl.length by omega) hm hr hZ.1
  refine ⟨M', ?_⟩
  obtain ⟨W, D, VV⟩ := ob_W OBV
  have c2 : f_X11_count V b (2 : Int32) = some (.inr (nI fl.length), V) := by
    have h : f_X11_count V b (2 : Int32) = some (.inr (B 0 3), V) := ob_count OBV (c := 2) (by omega)
    rw [h, W.2.2.1]
  have c1 : f_X11_count V b (1 : Int32) = some (.inr (nI gl.length), V) := by
    have h : f_X11_count V b (1 : Int32) = some (.inr (B 0 2), V) := ob_count OBV (c := 1) (by omega)
    rw [h, W.1]
  have c4 : f_X11_count V b (4 : Int32) = some (.inr (nI pl.length), V) := by
    have h : f_X11_count V b (4 : Int32) = some (.inr (B 0 5), V) := ob_count OBV (c := 4) (by omega)
    rw [h, W.2.2.2.2.1.1]
  have tb := (ob_b OBV).2
  have tX13 : mT X a = 13 := SBX.1.1
  unfold f_L_law b_L_law_0
  rw [← ha, ck_t ⟨by decide, by decide⟩, lw_S, ck_t ⟨by decide, by decide⟩, bd_s e1, ck_t ⟨by decide, by decide⟩, bd_s e2, ck_t ⟨by decide, by decide⟩, lw_S, ← hb, ck_t ⟨by decide, by decide⟩, bd_s e3, ck_t tX13, ck_t ⟨by decide, by decide⟩, bd_s e4, ck_t ⟨by decide, by decide⟩, bx_s e5, if_pos (show nI 0 = (0 : Int32) from rfl), ck_t tb, ck_t ⟨by decide, by decide⟩, bx_s c2, ck_t tb, ck_t ⟨by decide, by decide⟩, bx_s c1, ck_t tb, ck_t ⟨by decide, by decide⟩, bx_s c4]
  exact eL
