/-! ## Pure: what the object answers, one method after another -/
section CA
variable {Z pg : Nat → Nat} {b o o' n kb len F G np ng : Nat} {T : Nat → Nat} {M : gMem}
theorem p_ground (S : PSt Z pg b o o' n kb len F G np ng T M) {g c : Nat} (hg : g < G) (hc : c < 9) : f_X11_ground M b (nI g) (nI c) = some (.inr (gvA (cutF 86 o M) g c), M) := by
  obtain ⟨⟨t0, r0, r1, r2⟩, ⟨L1, L2, t7, cA⟩, ⟨g2, g3, g5, g4⟩, ⟨hG, hF, hp6, hng⟩, -, -, -, -, -, -, -, -⟩ := PS_c S
  exact c_gv L1 t0 r1 g2 hG hg hc
theorem p_fisher (S : PSt Z pg b o o' n kb len F G np ng T M) {f c : Nat} (hf : f < F) (hc : c < 10) : f_X11_fisher M b (nI f) (nI c) = some (.inr (fvA (cutF 86 o M) f c), M) := by
  obtain ⟨⟨t0, r0, r1, r2⟩, ⟨L1, L2, t7, cA⟩, ⟨g2, g3, g5, g4⟩, ⟨hG, hF, hp6, hng⟩, -, -, -, -, -, -, -, -⟩ := PS_c S
  exact c_fv L1 t0 r1 g3 hF hf hc (S.2.2.2.1 f hf)
theorem p_pact (S : PSt Z pg b o o' n kb len F G np ng T M) {p c : Nat} (hp : p < np) (hc : c < 7) : f_X11_pact M b (nI p) (nI c) = some (.inr (pvA (cutF 86 o M) p c), M) := by
  obtain ⟨⟨t0, r0, r1, r2⟩, ⟨L1, L2, t7, cA⟩, ⟨g2, g3, g5, g4⟩, ⟨hG, hF, hp6, hng⟩, -, -, -, -, -, -, -, -⟩ := PS_c S
  exact c_pv L1 t0 r1 g5 hp6 hp hc
theorem p_count (S : PSt Z pg b o o' n kb len F G np ng T M) {c : Nat} (hc : c < 10) : f_X11_count M b (nI c) = some (.inr (cvA (cutF 86 o M) F G n c), M) := by
  obtain ⟨⟨t0, r0, r1, r2⟩, ⟨L1, L2, t7, cA⟩, ⟨g2, g3, g5, g4⟩, ⟨hG, hF, hp6, hng⟩, -, -, -, -, -, -, t9, hn⟩ := PS_c S
  exact c_cv L1 t0 r1 r0 t9 hn S.2.2.1.1.1 S.2.2.1.1.2.2.1 hG hF hc
theorem p_took (S : PSt Z pg b o o' n kb len F G np ng T M) {g f : Nat} (hg : g < G) (hf : f < F) : f_X11_took M b (nI g) (nI f) = some (.inr (cutF 86 o M (35 + 2 * f) g), M) := by
  obtain ⟨⟨t0, r0, r1, r2⟩, ⟨L1, L2, t7, cA⟩, ⟨g2, g3, g5, g4⟩, ⟨hG, hF, hp6, hng⟩, -, -, -, -, -, -, -, -⟩ := PS_c S
  have hf8 : f < 8 := by omega
  have Af : mI M (o + (35 + 2 * f)) = cutF 86 o M (35 + 2 * f) := (cutF_e (by omega)).symm
  unfold f_X11_took b_X11_took_0
  rw [ck_t t0, bx_s (c_ckG_in t0 r1 t7 g2 hG hg), ck_t t0, bx_s (c_ckF_in t0 r1 t7 g3 hF hf), ck_t t0, dr_s r1, ck_t t7, dr_s (lR0_7 L1), ck_t (lT_2 L1), lL_2 L1, ck_t (show inb (nI f) 8 from (inbN (by omega)).mpr hf8), nI_clamp (by omega), lRrf L1 hf8, dr_S, ck_t (lTf L1 hf8), dr_s (lRf L1 hf8), ck_t (lTft L1 hf8), lLft L1 hf8, ck_t (show inb (nI g) 8 from (inbN (by omega)).mpr (by omega)), nI_clamp (by omega), Af]
theorem p_blame (S : PSt Z pg b o o' n kb len F G np ng T M) {g : Nat} (hg : g < G) : ∃ v, f_X11_blame M b (nI g) = some (.inr v, M) ∧ (v = -1 ∨ ∃ i, i < F ∧ v = nI i) := by
  obtain ⟨⟨t0, r0, r1, r2⟩, ⟨L1, L2, t7, cA⟩, ⟨g2, g3, g5, g4⟩, ⟨hG, hF, hp6, hng⟩, -, -, -, -, -, -, -, -⟩ := PS_c S
  obtain ⟨fn, hfn⟩ : ∃ fn : Nat → Int32, fn = fun f => cutF 86 o M (35 + 2 * f) g := ⟨_, rfl⟩
  have cst : ∀ j, j < F → bb_X11_blame_12 M b (nI g) (blN fn j).1 (blN fn j).2 (nI j) = some (.inl (M, (blN fn (j + 1)).1, (blN fn (j + 1)).2, nI (j + 1))) := fun f hf => by
    have hf8 : f < 8 := by omega
    have Af : mI M (o + (35 + 2 * f)) (nI g).toNatClampNeg = fn f := by rw [nI_clamp (by omega), hfn, ← cutF_e (n := 86) (a := o) (M := M) (d := 35 + 2 * f) (by omega)]
    have q1 : ¬ nI F ≤ nI f := fun q => by have := (nI_leI (by omega) (by omega)).mp q; omega
    unfold bb_X11_blame_12 b_X11_blame_53
    rw [ck_t t0, dr_s r1, ck_t t7, g3, if_neg q1, dr_s (lR0_7 L1), ck_t (lT_2 L1), lL_2 L1, ck_t (show inb (nI f) 8 from (inbN (by omega)).mpr hf8), nI_clamp (n := f) (by omega), lRrf L1 hf8, dr_S, ck_t (lTf L1 hf8), dr_s (lRf L1 hf8), ck_t (lTft L1 hf8), lLft L1 hf8, ck_t (show inb (nI g) 8 from (inbN (by omega)).mpr (by omega)), Af, nI_1, blN]
    by_cases c : fn f ≤ (blN fn f).2
    · rw [if_pos c, if_pos c]
    · rw [if_neg c, if_neg c]
  have cen : bb_X11_blame_12 M b (nI g) (blN fn F).1 (blN fn F).2 (nI F) = some (.inr (.inr (blN fn F).1, M)) := by
    unfold bb_X11_blame_12
    rw [ck_t t0, dr_s r1, ck_t t7, g3, if_pos (nI_le (Nat.le_refl _) (by omega))]
    rfl
  refine ⟨(blN fn F).1, ?_, ?_⟩
  · unfold f_X11_blame b_X11_blame_0
    rw [ck_t t0, bx_s (c_ckG_in t0 r1 t7 g2 hG hg)]
    exact lp_seq (f := fun (q : gMem × Int32 × Int32 × Int32) => bb_X11_blame_12 q.1 b (nI g) q.2.1 q.2.2.1 q.2.2.2) (fun j => (M, (blN fn j).1, (blN fn j).2, nI j)) 0 F (Nat.zero_le _) (fun j _ hj => cst j hj) cen
  · rcases blN_s (f := fn) F with ⟨h, -⟩ | ⟨i, h1, h2, -⟩
    · exact .inl h
    · exact .inr ⟨i, h1, h2⟩
theorem p_gap (S : PSt Z pg b o o' n kb len F G np ng T M) : f_X11_gap M b = some (gapV (cutF 86 o M) F, M) := by
  obtain ⟨⟨t0, r0, r1, r2⟩, ⟨L1, L2, t7, cA⟩, ⟨g2, g3, g5, g4⟩, ⟨hG, hF, hp6, hng⟩, -, -, -, -, -, -, -, -⟩ := PS_c S
  have h := c_gapV (M := M) L1 S.2.2.1.1.2.2.1 hF
  rw [cA] at h
  unfold f_X11_gap b_X11_gap_0
  rw [ck_t t0, dr_s r1, ck_t t7, bd_s h]
theorem p_lot (S : PSt Z pg b o o' n kb len F G np ng T M) {f : Nat} (hf : f < F) : ∃ X, f_X11_lot M b (nI f) = some (.inr (nI (ltA F (cutF 86 o M 0 1) f)), X) ∧ PSt Z pg b o o' n kb len F G np ng T X ∧ CFr b M X ∧ nz (cutF 86 o X) = nz (cutF 86 o M) := by
  obtain ⟨⟨t0, r0, r1, r2⟩, ⟨L1, L2, t7, cA⟩, ⟨g2, g3, g5, g4⟩, ⟨hG, hF, hp6, hng⟩, -, -, -, -, -, -, -, -⟩ := PS_c S
  obtain ⟨A', dr1, nzA, lt1⟩ := s7_draw (M := M) L1 S.2.2.1.1.2.2.1 hF
  rw [cA] at dr1
  have z := (in_bnd2 (x := nI f) (n := F) (by omega)).mpr ⟨f, hf, rfl⟩
  obtain ⟨S', C', e'⟩ := PS_z S nzA
  refine ⟨sC o A' M, ?_, S', C', e'⟩
  unfold f_X11_lot b_X11_lot_0
  rw [if_neg z.1, ck_t t0, dr_s r1, ck_t t7, g3, if_pos z.2, bd_s dr1, ck_t (show mT (sC o A' M) b = 10 from t0), dr_s (show mR (sC o A' M) b 1 = some o from r1), ck_t (show mT (sC o A' M) o = 7 from t7), dr_s (show mR (sC o A' M) o 11 = some (o + 9) from (L1 0 (by omega)).2.2 (by omega) 11), ck_t (show mT (sC o A' M) (o + 9) = 20 from (L1 9 (by omega)).1), show mL (sC o A' M) (o + 9) = 8 from (L1 9 (by omega)).2.1, ck_t (show inb (nI f) 8 from (inbN (by omega)).mpr (by omega)), nI_clamp (by omega), sC_I (by omega), lt1 f hf]
theorem p_digest (S : PSt Z pg b o o' n kb len F G np ng T M) : ∃ X, f_X11_digest M b = some (dgV (cutF 86 o M) F G np n, X) ∧ PSt Z pg b o o' n kb len F G np ng T X ∧ CFr b M X ∧ nz (cutF 86 o X) = nz (cutF 86 o M) := by
  obtain ⟨⟨t0, r0, r1, r2⟩, ⟨L1, L2, t7, cA⟩, ⟨g2, g3, g5, g4⟩, ⟨hG, hF, hp6, hng⟩, -, -, -, -, -, -, t9, hn⟩ := PS_c S
  obtain ⟨A', e1, e2⟩ := c_digest L1 t0 r1 r0 t9 hn S.2.2.1.1 S.2.2.2.1
  obtain ⟨S', C', e'⟩ := PS_z S e2
  exact ⟨_, e1, S', C', e'⟩
theorem p_cheat (S : PSt Z pg b o o' n kb len F G np ng T M) {f : Nat} {y : Int32} (hf : f < F) (hy : y = 0 ∨ y = 1) : ∃ X, f_X11_cheat M b (nI f) y = some (.inr (sumN (fun i => if (up2 (cutF 86 o M) (34 + 2 * f) 9 y) (34 + 2 * i) 9 = nI 0 then (0 : Int32) else 1) F), X) ∧ PSt Z pg b o o' n kb len F G np ng T X ∧ CFr b M X ∧ ∀ d, d < 86 → cutF 86 o X d = up2 (cutF 86 o M) (34 + 2 * f) 9 y d := by
  obtain ⟨⟨t0, r0, r1, r2⟩, ⟨L1, L2, t7, cA⟩, ⟨g2, g3, g5, g4⟩, ⟨hG, hF, hp6, hng⟩, -, -, -, -, -, -, -, -⟩ := PS_c S
  obtain ⟨-, -, ⟨W, D, V⟩, c9, -⟩ := id S
  obtain ⟨A', hA'⟩ : ∃ A', A' = up2 (cutF 86 o M) (34 + 2 * f) 9 y := ⟨_, rfl⟩
  have hf8 : f < 8 := by omega
  have A'd : ∀ d, d ≠ 34 + 2 * f → A' d = cutF 86 o M d := fun d hd => by rw [hA', up2_d hd]
  have A'f : ∀ d k, d ≠ 34 + 2 * f ∨ k ≠ 9 → A' d k = cutF 86 o M d k := fun d k z => by rw [hA', up2_ne z]
  obtain ⟨S', C'⟩ := PS_s (A' := A') (kb' := kb) S (fun d k z => A'f d k (by unfold toldX at z; omega)) (fun d d1 d2 => A'd d (by omega)) (by
    refine ⟨fun g hg s s1 s2 => ?_, fun f' hf' => ?_⟩
    · rw [A'd _ (by omega)]; exact D.1 g hg s s1 s2
    · have d2 := D.2 f' hf'
      unfold okF at d2 ⊢
      rw [A'f _ 1 (.inr (by decide)), A'f _ 2 (.inr (by decide)), A'f _ 3 (.inr (by decide))]
      exact d2) (by
    refine ⟨fun f' hf' => ?_, fun g hg => ?_, fun f' hf' => ?_, fun f' hf' => ?_⟩
    · rw [A'f _ 4 (.inr (by decide))]; exact V.1 f' hf'
    · rw [A'd _ (by omega), V.2.1 g hg]
      exact sumN_c F fun i hi => by rw [A'd _ (by omega)]
    · rw [A'f _ 8 (.inr (by decide)), V.2.2.1 f' hf', A'd _ (by omega)]
    · rw [A'f _ 0 (.inr (by decide))]; exact V.2.2.2 f' hf') (fun f' hf' => by
    by_cases e : f' = f
    · subst e; rw [hA', up2_eq]; exact hy
    · rw [A'd _ (by omega)]; exact c9 f' hf')
  refine ⟨sC o A' M, ?_, S', C', fun d hd => by rw [cut_sC hd, hA']⟩
  have W0 : ∀ Y, Y = sC o (cutF 86 o M) M → wI Y (o + (34 + 2 * f)) 9 y = sC o A' M := by
    rintro _ rfl
    rw [sC_W (by omega), hA']
  have W1 := W0 _ cA.symm
  unfold f_X11_cheat b_X11_cheat_0
  rw [ck_t t0, bx_s (c_ckF_in t0 r1 t7 g3 hF hf), ck_t t0, dr_s r1, ck_t t7, dr_s (lR0_7 L1), ck_t (lT_2 L1), lL_2 L1, ck_t (show inb (nI f) 8 from (inbN (by omega)).mpr hf8), nI_clamp (by omega), lRrf L1 hf8, dr_S, ck_t (lTf L1 hf8), ck_t hy, W1, lw_S, dr_s (show mR (sC o A' M) b 1 = some o from r1), ck_t (show mT (sC o A' M) o = 7 from t7), bd_s (s7_allCheats L1 (by rw [A'd 0 (by omega)]; exact W.2.2.1) hF), hA']
/-- one tide -/
theorem p_pass (S : PSt Z pg b o o' n kb len F G np ng T M) : ∃ X, f_X11_pass Z M b (nI 1) = some (.inr (incA pg len np ng F G (nz (cutF 86 o M)) 1), X) ∧ PSt Z pg b o o' n (kb + 792) len F G np ng T X ∧ CFr b M X ∧ ∀ d, d < 86 → (d < 8 ∨ 11 < d) → cutF 86 o X d = tideA pg len np ng F G (nz (cutF 86 o M)) d := by
  obtain ⟨⟨t0, r0, r1, r2⟩, ⟨L1, L2, t7, cA⟩, ⟨g2, g3, g5, g4⟩, ⟨hG, hF, hp6, hng⟩, -, -, -, -, -, -, -, -⟩ := PS_c S
  obtain ⟨-, P, ⟨W, D, V⟩, c9, -⟩ := id S
  have ck : f_X11_checkTides M (nI 1) 60 = some (.inr (), M) := by
    unfold f_X11_checkTides b_X11_checkTides_0
    rw [if_neg (by decide), if_pos (by decide)]
  obtain ⟨A', p1, p2⟩ := s7_passTides (n := 1) L1 (⟨P, W, D⟩ : WW Z pg o len M F G np ng (cutF 86 o M)) (by decide)
  rw [cA] at p1
  have W0 : WS (nz (cutF 86 o M)) F G np ng := WS_c (eqT_nz _) W
  have D0 : WD (nz (cutF 86 o M)) F G := WD_nz.mpr D
  have V0 : SVa kb (nz (cutF 86 o M)) F G := SVa_cg (fun d d1 d2 => nz_e (by omega)) hF hG V
  have p2 : nz A' = tideA pg len np ng F G (nz (cutF 86 o M)) := p2
  obtain ⟨-, tw1, tw2⟩ := tide_W (pg := pg) (len := len) W0 D0
  have hA' : ∀ d, (d < 8 ∨ 11 < d) → A' d = tideA pg len np ng F G (nz (cutF 86 o M)) d := fun d hd => by rw [← p2, nz_e hd]
  have V1 := SVa_tide (pg := pg) (len := len) W0 D0 V0
  obtain ⟨S', C'⟩ := PS_s (A' := A') (kb' := kb + 792) S (fun d i z => by
      have z' := z.1
      rw [hA' d (by unfold told at z'; omega), tw1 d i z', nz_e (by unfold told at z'; omega)]) (fun d d1 d2 => by
      rw [hA' d (by omega)]
      funext i
      rw [tide_o W0 D0 (by omega), nz_e (by omega)]) (by
      refine ⟨fun g hg s s1 s2 => ?_, fun f hf => ?_⟩
      · rw [hA' _ (by omega)]; exact tw2.1 g hg s s1 s2
      · have d2 := tw2.2 f hf
        unfold okF at d2 ⊢
        rw [hA' _ (by omega)]; exact d2) (SVa_cg (fun d d1 d2 => hA' d (by omega)) hF hG V1) (fun f hf => by
      rw [hA' _ (by omega), tw1 _ 9 (by unfold told; omega), nz_e (by omega)]; exact c9 f hf)
  refine ⟨sC o A' M, ?_, S', C', fun d hd h8 => by rw [cut_sC hd, hA' d h8]⟩
  unfold f_X11_pass b_X11_pass_0
  rw [bx_s ck, ck_t t0, dr_s r1, ck_t t7, bd_s p1]
/-- a look ahead -/
theorem p_look (S : PSt Z pg b o o' n kb len F G np ng T M) {X : gMem} (O : OFr o' M X) : ∃ X1, f_X11_lookAhead Z X b = some (some o', X1) ∧ OFr o' M X1 ∧ CPY (cutF 86 o M) (cutF 86 o' X1) F G np ng len ∧ PG Z pg o' len X1 (cutF 86 o' X1) := by
  obtain ⟨⟨t0, r0, r1, r2⟩, ⟨L1, L2, t7, cA⟩, -, -, q0, ⟨q1, q2, q3, q4⟩, P1, P2, F1, F2, -, -⟩ := PS_c S
  obtain ⟨-, P, ⟨W, D, V⟩, c9, -⟩ := id S
  obtain ⟨X1, x1, x2, x3, x4⟩ := c_copy L1 L2 q0 O P W P1 c9
  refine ⟨X1, ?_, x2, x3, x4⟩
  have rb : mR X b = mR M b := O.2.2.2.2.1 b (by omega)
  have rb1 : mR X1 b = mR M b := x2.2.2.2.2.1 b (by omega)
  unfold f_X11_lookAhead b_X11_lookAhead_0
  rw [ck_t (show mT X b = 10 by rw [O.1]; exact t0), rb, dr_s r2, ck_t (show mT X o' = 7 by rw [O.1]; exact lTo L2), r1, bd_s x1, ck_t (show mT X1 b = 10 by rw [x2.1]; exact t0), rb1, r2]
theorem p_foresee (S : PSt Z pg b o o' n kb len F G np ng T M) {c : Nat} (hc : c < 3) : ∃ X, f_X11_foresee Z M b (nI 1) (nI c) = some (.inr (frV (tideA pg len np ng F G (nz (cutF 86 o M))) F G c), X) ∧ OFr o' M X := by
  obtain ⟨⟨t0, r0, r1, r2⟩, ⟨L1, L2, t7, cA⟩, ⟨g2, g3, g5, g4⟩, ⟨hG, hF, hp6, hng⟩, q0, ⟨q1, q2, q3, q4⟩, P1, P2, F1, F2, -, -⟩ := PS_c S
  obtain ⟨-, P, ⟨W, D, V⟩, c9, vb⟩ := id S
  have ck1 : f_X11_checkTides M (nI 1) 60 = some (.inr (), M) := (c_ckT (n := 60) (by omega)).1 ⟨1, by decide, by decide, rfl⟩
  obtain ⟨X1, x1, O1, C1, P3⟩ := p_look S (OFr_0 P2)
  have W1 := WS_k C1 W
  have D1 := WD_k C1 D
  obtain ⟨A', y1, y2, O2, LX, W0, D0⟩ := c_run (n := 1) L2 O1 P3 W1 D1 (fun _ _ _ => rfl) (fun _ _ => rfl) (by decide)
  rw [sC_cut] at y1
  have y2 : ∀ d, (d < 8 ∨ 11 < d) → A' d = tideA pg len np ng F G (nz (cutF 86 o' X1)) d := y2
  have f2 : A' 0 2 = nI G := by rw [y2 0 (by omega), (tide_W (pg := pg) (len := len) W0 D0).2.1 0 2 (by unfold told; omega)]; exact W0.1
  have f3 : A' 0 3 = nI F := by rw [y2 0 (by omega), (tide_W (pg := pg) (len := len) W0 D0).2.1 0 3 (by unfold told; omega)]; exact W0.2.2.1
  refine ⟨sC o' A' X1, ?_, O2⟩
  unfold f_X11_foresee b_X11_foresee_0
  rw [bx_s ck1, if_neg (show ¬ nI c < 0 from fun z => absurd ((nI_ltI (a := c) (b := 0) (by omega) (by omega)).mp z) (by omega)), if_pos (show nI c ≤ 2 from nI_le (b := 2) (by omega) (by omega)), ck_t t0, bd_s x1, dr_S, ck_t (lTo LX), bd_s y1]
  rw [c_frV LX f2 f3 hF hG hc, frV_cg (fun d hd => y2 d (by omega))]
  have k1 : eqK True F G np ng len (nz (cutF 86 o M)) (nz (cutF 86 o' X1)) := k_nz (k_cpy C1)
  have k2 := k_tide (pg := pg) (WS_c (eqT_nz _) W) (WD_nz.mpr D) k1 (fun s hs => by rw [nz_e (by decide)]; exact vb s hs) (fun _ _ _ => trivial) (fun _ => trivial)
  rw [k_frV k2]
/-- a fisher of a copy, changed -/
theorem p_var (S : PSt Z pg b o o' n kb len F G np ng T M) {X : gMem} (O : OFr o' M X) {f k c : Nat} {v : Int32} (hf : f < F) (hk : k ≤ 60) (hc : (c = 9 ∧ (v = 0 ∨ v = 1)) ∨ (c = 1 ∧ ∃ e, 1 ≤ e ∧ e ≤ 6 ∧ v = nI e)) : ∃ X1 X2 y B, f_X11_lookAhead Z X b = some (some o', X1) ∧ OFr o' M X1 ∧ f_X7_passTides Z (wI X1 (o' + (34 + 2 * f)) c v) o' (nI k) = some (y, X2) ∧ OFr o' M X2 ∧ mI X2 (o' + (34 + 2 * f)) 4 = tidesA pg len np ng F G (nz B) k (34 + 2 * f) 4 ∧ (∃ a, a ≤ kb + 792 * k ∧ mI X2 (o' + (34 + 2 * f)) 4 = nI a) ∧ WS (nz B) F G np ng ∧ WD (nz B) F G ∧ (∀ d i, KU True F G np ng len d i → B d i = up2 (cutF 86 o M) (34 + 2 * f) c v d i) := by
  obtain ⟨⟨t0, r0, r1, r2⟩, ⟨L1, L2, t7, cA⟩, ⟨g2, g3, g5, g4⟩, ⟨hG, hF, hp6, hng⟩, q0, ⟨q1, q2, q3, q4⟩, P1, P2, F1, F2, -, -⟩ := PS_c S
  obtain ⟨-, P, ⟨W, D, V⟩, c9, vb⟩ := id S
  obtain ⟨X1, x1, O1, C1, P3⟩ := p_look S O
  obtain ⟨A2, hA2⟩ : ∃ A2, A2 = up2 (cutF 86 o' X1) (34 + 2 * f) c v := ⟨_, rfl⟩
  have eM : eqM f (cutF 86 o' X1) A2 := fun d i z => by
    rw [hA2]
    refine up2_ne ?_
    omega
  have eX := eqM_X (by omega) eM
  have W1 := WS_x eX (WS_k C1 W)
  have m1 : A2 (34 + 2 * f) 1 = if c = 1 then v else cutF 86 o M (34 + 2 * f) 1 := by
    by_cases q : c = 1
    · subst q; rw [hA2, up2_eq, if_pos rfl]
    · rw [if_neg q, hA2, up2_ne (.inr (fun z => q z.symm))]; exact C1.2.2.2.2.2.1 f 1 hf (by omega)
  have k1 : ∃ e, 1 ≤ e ∧ e ≤ 6 ∧ A2 (34 + 2 * f) 1 = nI e := by
    rw [m1]
    by_cases q : c = 1
    · rw [if_pos q]
      obtain z | z := hc
      · omega
      · exact z.2
    · rw [if_neg q]; exact (D.2 f hf).1
  have D1 := WD_m eM k1 hG (WD_k C1 D)
  have P4 : PG Z pg o' len X1 A2 := PG_congr P3 (eqM_d eM (by omega)) (eqM_d eM (by omega))
  obtain ⟨A', y1, y2, O2, LX, W0, D0⟩ := c_run (n := k) L2 O1 P4 W1 D1 (fun d d1 d2 => eqM_d eM (by omega)) (fun q hq => by rw [eqM_d eM (by omega)]) (by omega)
  have V0 : SVa kb (nz A2) F G := SVa_cg (fun d d1 d2 => nz_e (by omega)) hF hG (SVa_m eM (SVa_k hG C1 V))
  obtain ⟨a, a1, a2⟩ := (SVa_tides (pg := pg) (len := len) W0 D0 V0 k).1 f hf
  have e4 : mI (sC o' A' X1) (o' + (34 + 2 * f)) 4 = tidesA pg len np ng F G (nz A2) k (34 + 2 * f) 4 := by rw [sC_I (by omega), y2 _ (by omega)]
  refine ⟨X1, sC o' A' X1, incA pg len np ng F G (nz A2) k, A2, x1, O1, ?_, O2, e4, ⟨a, a1, e4.trans a2⟩, W0, D0, fun d i hd => ?_⟩
  · rw [← y1]
    have W2 : ∀ Y, Y = sC o' (cutF 86 o' X1) X1 → wI Y (o' + (34 + 2 * f)) c v = sC o' A2 X1 := by
      rintro _ rfl
      rw [sC_W (by omega), hA2]
    rw [W2 _ sC_cut.symm]
  · rw [hA2]
    by_cases e : d = 34 + 2 * f ∧ i = c
    · rw [e.1, e.2, up2_eq, up2_eq]
    · rw [up2_ne (by omega), up2_ne (by omega)]
      exact k_cpy C1 d i hd
theorem p_pays (S : PSt Z pg b o o' n kb len F G np ng T M) {f : Nat} (hf : f < F) : ∃ r X, f_X11_pays Z M b (nI f) (nI 1) = some (.inr r, X) ∧ OFr o' M X ∧ (np = 0 → (∀ i, i < len → ¬ gSw (pg i) = 7) → r = 0) := by
  obtain ⟨⟨t0, r0, r1, r2⟩, ⟨L1, L2, t7, cA⟩, ⟨g2, g3, g5, g4⟩, ⟨hG, hF, hp6, hng⟩, q0, ⟨q1, q2, q3, q4⟩, P1, P2, F1, F2, -, -⟩ := PS_c S
  obtain ⟨-, P, ⟨W, D, V⟩, c9, vb⟩ := id S
  have hf8 : f < 8 := by omega
  have ck1 : f_X11_checkTides M (nI 1) 60 = some (.inr (), M) := (c_ckT (n := 60) (by omega)).1 ⟨1, by decide, by decide, rfl⟩
  obtain ⟨X1, X2, z1, B, x1, O1, x2, O2, x3, -, WB, DB, hB⟩ := p_var (k := 1) (c := 9) (v := 1) S (OFr_0 P2) hf (by decide) (.inl ⟨rfl, .inr rfl⟩)
  obtain ⟨X3, X4, z2, B', x5, O3, x6, O4, x7, -, WB', DB', hB'⟩ := p_var (k := 1) (c := 9) (v := 0) S O2 hf (by decide) (.inl ⟨rfl, .inl rfl⟩)
  have l1 := OFr_LC O1 L2 (fun z => absurd rfl z)
  have l2 := OFr_LC O2 L2 (fun z => absurd rfl z)
  have l3 := OFr_LC O3 L2 (fun z => absurd rfl z)
  have l4 := OFr_LC O4 L2 (fun z => absurd rfl z)
  refine ⟨mI X2 (o' + (34 + 2 * f)) 4 - mI X4 (o' + (34 + 2 * f)) 4, X4, ?_, O4, ?_⟩
  · unfold f_X11_pays b_X11_pays_0
    rw [ck_t t0, bx_s (c_ckF_in t0 r1 t7 g3 hF hf), bx_s ck1, ck_t t0, bd_s x1, dr_S, fcell l1 hf8, lw_S, bd_s x2, fcell l2 hf8, ck_t (show mT X2 b = 10 by rw [O2.1]; exact t0), bd_s x5, dr_S, fcell l3 hf8, lw_S, bd_s x6, fcell l4 hf8]
  · intro hnp hno
    have kk : eqK False F G np ng len (nz B) (nz B') := k_nz (fun d i hd => by
      have ht : KU True F G np ng len d i := by
        rcases hd with z | z | z | ⟨h1, h2, ⟨h3, h4, -⟩ | h3⟩ | z | z
        · exact .inl z
        · exact .inr (.inl z)
        · exact .inr (.inr (.inl z))
        · exact .inr (.inr (.inr (.inl ⟨h1, h2, .inl ⟨h3, h4, fun _ => trivial⟩⟩)))
        · exact .inr (.inr (.inr (.inl ⟨h1, h2, .inr h3⟩)))
        · exact .inr (.inr (.inr (.inr (.inl z))))
        · exact .inr (.inr (.inr (.inr (.inr z))))
      rw [hB d i ht, hB' d i ht]
      have ne : d ≠ 34 + 2 * f ∨ i ≠ 9 := by
        by_cases e : d = 34 + 2 * f ∧ i = 9
        · exfalso
          rcases hd with z | z | z | ⟨h1, h2, ⟨h3, h4, h5⟩ | ⟨h3, h4⟩⟩ | z | z
          · omega
          · omega
          · omega
          · exact h5 e.2
          · omega
          · omega
          · omega
        · omega
      rw [up2_ne ne, up2_ne ne])
    have vB : VB pg (nz B) F G len := fun s hs => by
      have e7 : nz B 7 s = cutF 86 o M 7 s := by
        rw [nz_e (by decide), hB 7 s (.inr (.inl ⟨rfl, hs⟩)), up2_ne (.inl (by omega))]
      rw [e7]; exact vb s hs
    have k2 := k_tides (pg := pg) WB DB kk vB (fun i hi z => hno i hi z) (fun z => by omega) 1
    rw [x3, x7, kf k2 hf (k := 4) (by decide)]
    exact Int32.sub_self _
theorem p_advise (S : PSt Z pg b o o' n kb len F G np ng T M) {f k : Nat} (hf : f < F) (hk1 : 1 ≤ k) (hk : k ≤ 40) : ∃ e X, f_X11_advise Z M b (nI f) (nI k) = some (.inr (nI e), X) ∧ OFr o' M X ∧ 1 ≤ e ∧ e ≤ 5 := by
  obtain ⟨⟨t0, r0, r1, r2⟩, ⟨L1, L2, t7, cA⟩, ⟨g2, g3, g5, g4⟩, ⟨hG, hF, hp6, hng⟩, q0, ⟨q1, q2, q3, q4⟩, P1, P2, F1, F2, -, -⟩ := PS_c S
  have hf8 : f < 8 := by omega
  have i8 : inb (nI f) 8 := (inbN (by omega)).mpr hf8
  have ck1 : f_X11_checkTides M (nI k) 40 = some (.inr (), M) := (c_ckT (n := 40) (by omega)).1 ⟨k, hk1, hk, rfl⟩
  obtain ⟨q, ⟨X, be, mo, rfl, OX, e, e1, e2, rfl⟩, e2'⟩ := lp_ex (f := fun (q : gMem × Int32 × Int32 × Int32) => bb_X11_advise_19 Z q.1 b (nI f) (nI k) q.2.1 q.2.2.1 q.2.2.2) (fun j q => ∃ X be mo, q = (X, be, mo, nI (j + 1)) ∧ OFr o' M X ∧ ∃ e, 1 ≤ e ∧ e ≤ 5 ∧ be = nI e) 5 (fun j q hj hP => by
    obtain ⟨X, be, mo, rfl, OX, e, e1, e2, e3⟩ := hP
    obtain ⟨X1, X2, z1, B, x1, O1, x2, O2, x3, ⟨a, a1, x4⟩, -⟩ := p_var (k := k) (c := 1) (v := nI (j + 1)) S OX hf (by omega) (.inr ⟨rfl, j + 1, by omega, by omega, rfl⟩)
    have l1 := OFr_LC O1 L2 (fun z => absurd rfl z)
    have l2 := OFr_LC O2 L2 (fun z => absurd rfl z)
    have q1 : ¬ (5 : Int32) < nI (j + 1) := fun z => by have := (nI_ltI (a := 5) (by omega) (by omega)).mp z; omega
    have cstep : bb_X11_advise_19 Z X b (nI f) (nI k) be mo (nI (j + 1)) = if nI a ≤ mo then some (.inl (X2, be, mo, nI (j + 1 + 1))) else some (.inl (X2, nI (j + 1), nI a, nI (j + 1 + 1))) := by
      unfold bb_X11_advise_19 b_X11_advise_80
      rw [if_neg q1, ck_t (show mT X b = 10 by rw [OX.1]; exact t0), bd_s x1, dr_S, fcell l1 hf8, lw_S, bd_s x2, fcell l2 hf8, x4, ck_t (show inb (nI f) (mL X2 (o' + 2)) by rw [lL_2 l2]; exact i8), nI_1]
    by_cases w : nI a ≤ mo
    · exact ⟨(X2, be, mo, nI (j + 1 + 1)), cstep.trans (if_pos w), X2, be, mo, rfl, O2, e, e1, e2, e3⟩
    · exact ⟨(X2, nI (j + 1), nI a, nI (j + 1 + 1)), cstep.trans (if_neg w), X2, nI (j + 1), nI a, rfl, O2, j + 1, by omega, by omega, rfl⟩) 5 0 (M, 1, -1, nI 1) (by omega) ⟨M, 1, -1, rfl, OFr_0 P2, 1, by decide, by decide, rfl⟩
  refine ⟨e, X, ?_, OX, e1, e2⟩
  unfold f_X11_advise b_X11_advise_0
  rw [ck_t t0, bx_s (c_ckF_in t0 r1 t7 g3 hF hf), bx_s ck1]
  show lp (fun (q : gMem × Int32 × Int32 × Int32) => bb_X11_advise_19 Z q.1 b (nI f) (nI k) q.2.1 q.2.2.1 q.2.2.2) (M, 1, -1, nI 1) = _
  rw [e2']
  refine lp_out ?_
  show bb_X11_advise_19 Z X b (nI f) (nI k) (nI e) mo (nI 6) = _
  unfold bb_X11_advise_19
  rw [if_pos (by decide)]
  rfl
theorem p_empty (S : PSt Z pg b o o' n kb len F G np ng T M) {g : Nat} (hg : g < G) : ∃ X, f_X11_empty Z M b (nI g) = some (.inr (emV (fun j => sum5 (tidesA pg len np ng F G (nz (cutF 86 o M)) j (19 + 2 * g)) 5) 101 0), X) ∧ OFr o' M X := by
  obtain ⟨⟨t0, r0, r1, r2⟩, ⟨L1, L2, t7, cA⟩, ⟨g2, g3, g5, g4⟩, ⟨hG, hF, hp6, hng⟩, q0, ⟨q1, q2, q3, q4⟩, P1, P2, F1, F2, -, -⟩ := PS_c S
  obtain ⟨-, P, ⟨W, D, V⟩, c9, vb⟩ := id S
  obtain ⟨X1, x1, O1, C1, P3⟩ := p_look S (OFr_0 P2)
  have W1 := WS_k C1 W
  have D1 := WD_k C1 D
  obtain ⟨X2, O2, l2⟩ := c_empty L2 O1 P3 W1 D1 (show g < 8 by omega) 101 0 (cutF 86 o' X1) rfl rfl
  rw [sC_cut] at l2
  refine ⟨X2, ?_, O2⟩
  have k1 : eqK True F G np ng len (nz (cutF 86 o M)) (nz (cutF 86 o' X1)) := k_nz (k_cpy C1)
  have ev : (fun j => sum5 (tidesA pg len np ng F G (nz (cutF 86 o' X1)) j (19 + 2 * g)) 5) = fun j => sum5 (tidesA pg len np ng F G (nz (cutF 86 o M)) j (19 + 2 * g)) 5 := by
    funext j
    have k2 := k_tides (pg := pg) (WS_c (eqT_nz _) W) (WD_nz.mpr D) k1 (fun s hs => by rw [nz_e (by decide)]; exact vb s hs) (fun _ _ _ => trivial) (fun _ => trivial) j
    exact sum5_c fun s s1 s2 => ks k2 hg s1 s2
  rw [ev] at l2
  unfold f_X11_empty b_X11_empty_0
  rw [ck_t t0, bx_s (c_ckG_in t0 r1 t7 g2 hG hg), ck_t t0, bd_s x1]
  exact l2
/-- when a ground is empty: now, behind a tide, later, never -/
theorem emV_0 {fz : Nat → Int32} : (emV fz 101 0 = 0 ↔ fz 0 = 0) ∧ (0 < emV fz 101 0 → (emV fz 101 0 = 1 ↔ fz 1 = 0)) := by
  have late : ∀ r k, k + r = 101 → emV fz r k = -1 ∨ ∃ j, k ≤ j ∧ j ≤ 100 ∧ emV fz r k = nI j
    := fun r => by
    induction r with
    | zero => intro k _; exact .inl rfl
    | succ r ih =>
      intro k hk
      rw [emV]
      by_cases c : fz k = 0
      · rw [if_pos c]; exact .inr ⟨k, Nat.le_refl _, by omega, rfl⟩
      · rw [if_neg c]
        rcases ih (k + 1) (by omega) with h | ⟨j, j1, j2, j3⟩
        · exact .inl h
        · exact .inr ⟨j, by omega, j2, j3⟩
  by_cases c0 : fz 0 = 0
  · have e : emV fz 101 0 = 0 := by rw [emV, if_pos c0]; rfl
    refine ⟨⟨fun _ => c0, fun _ => e⟩, fun h => ?_⟩
    rw [e] at h
    exact absurd h (by decide)
  · have e : emV fz 101 0 = emV fz 100 1 := by rw [emV, if_neg c0]
    rw [e]
    refine ⟨⟨fun h => ?_, fun h => absurd h c0⟩, fun hp => ?_⟩
    · rcases late 100 1 rfl with z | ⟨j, j1, j2, z⟩
      · rw [z] at h; exact absurd h (by decide)
      · rw [z] at h
        have := (nI_eq (a := j) (b := 0) (by omega) (by decide)).mp h
        omega
    · rw [emV]
      by_cases c1 : fz 1 = 0
      · rw [if_pos c1]; exact ⟨fun _ => c1, fun _ => rfl⟩
      · rw [if_neg c1]
        refine ⟨fun h => ?_, fun h => absurd h c1⟩
        rcases late 99 2 rfl with z | ⟨j, j1, j2, z⟩
        · rw [z] at h; exact absurd h (by decide)
        · rw [z] at h
          have := (nI_eq (a := j) (b := 1) (by omega) (by decide)).mp h
          omega
end CA
