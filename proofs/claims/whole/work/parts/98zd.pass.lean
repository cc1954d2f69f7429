/-! ## Pure: pass on both sides -/
theorem RS_sto {A st : Nat → Nat → Int32} {F G np : Nat} (hF : F ≤ 8) (R : RS A st F G np) : sumN (st 5) (lenS 5) = sumN (fun i => A (34 + 2 * i) 4) F := by
  show sumN (st 5) 8 = _
  rw [sumN_ext (n := F) 8 hF fun i i1 i2 => (R.2.2.2.2.2.1 i i1 i2).1]
  exact sumN_c F fun i hi => (R.1.2.2.2 i hi).2.1
/-- the reference's tides -/
theorem r_tides {pg : Nat → Nat} {m t F G len np ng n : Nat} {A st : Nat → Nat → Int32} {X : gMem} {v : Int32} (L : LSt m t (m + 24) X) (h13 : mR X m 13 = some (m + 24)) (T : TR pg len A X t F G np ng) (W : WS A F G np ng) (D : WD A F G) (R : RS A st F G np) (hlen : len ≤ 400) (hn : n < 2 ^ 31) (hv : v = sumN (fun i => A (34 + 2 * i) 4) F) : ∃ st', RS (tidesA pg len np ng F G A n) st' F G np ∧ lp_X14_pass_38 (bC 17 (m + 24) st X) m (nI n) v (nI 0) = some (incA pg len np ng F G A n, bC 17 (m + 24) st' X) := by
  have hF : F ≤ 8 := W.2.2.2.1
  have hG : G ≤ 8 := W.2.1
  have hp6 : np ≤ 6 := W.2.2.2.2.1.2.1
  have hng : ng ≤ 24 := W.2.2.2.2.2.1.2.1
  obtain ⟨a', ⟨st', e1, R'⟩, e2⟩ := lp_ex (f := fun (q : gMem × Int32) => bb_X14_pass_38 q.1 m (nI n) v q.2) (fun j a => ∃ st', a = (bC 17 (m + 24) st' X, nI j) ∧ RS (tidesA pg len np ng F G A j) st' F G np) n (fun j a hj hP => by
    obtain ⟨st1, rfl, R1⟩ := hP
    obtain ⟨w1, w2⟩ := tides_W (pg := pg) (len := len) W D j
    obtain ⟨st2, p1, p2⟩ := r_pass (pg := pg) L (TR_T hG hF hp6 hng w1 T) (WS_c w1 W) w2 R1 hlen
    refine ⟨(bC 17 (m + 24) st2 X, nI (j + 1)), ?_, st2, rfl, p2⟩
    show bb_X14_pass_38 (bC 17 (m + 24) st1 X) m (nI n) v (nI j) = _
    have q1 : ¬ nI n ≤ nI j := fun q => by have := (nI_leI hn (by omega)).mp q; omega
    unfold bb_X14_pass_38
    rw [if_neg q1, ck_t (show mT (bC 17 (m + 24) st1 X) m = 13 from L.1.2.2.1), dr_s (show mR (bC 17 (m + 24) st1 X) m 13 = some (m + 24) from h13), ck_t (show mT (bC 17 (m + 24) st1 X) (m + 24) = 11 from L.1.1), bd_s p1, nI_1]) n 0 (bC 17 (m + 24) st X, nI 0) (by omega) ⟨st, rfl, R⟩
  refine ⟨st', R', ?_⟩
  show lp (fun (q : gMem × Int32) => bb_X14_pass_38 q.1 m (nI n) v q.2) (bC 17 (m + 24) st X, nI 0) = _
  rw [e2, e1]
  refine lp_out ?_
  show bb_X14_pass_38 (bC 17 (m + 24) st' X) m (nI n) v (nI n) = _
  have h5 := L.2.2.1 5 (by omega) (by omega)
  unfold bb_X14_pass_38
  rw [if_pos (nI_le (Nat.le_refl _) hn), ck_t (show mT (bC 17 (m + 24) st' X) m = 13 from L.1.2.2.1), dr_s (show mR (bC 17 (m + 24) st' X) m 13 = some (m + 24) from h13), ck_t (show mT (bC 17 (m + 24) st' X) (m + 24) = 11 from L.1.1), show mR (bC 17 (m + 24) st' X) (m + 24) 6 = some (m + 24 + 5) from h5.2.2, bd_s (r_sum L (by omega) (by omega)), RS_sto hF R', inc_st W D, hv, Int32.add_comm, Int32.add_sub_cancel]
  rfl
theorem T_pass {Z : Nat → Nat} {b m o o' t n kb : Nat} {T : Nat → Nat} {M : gMem} {x : Int32} (S : STv Z b m o o' t n kb T M) : ∃ r M1 v M2 kb', f_X11_pass Z M b x = some (r, M1) ∧ f_X14_pass M1 m x = some (v, M2) ∧ AGR 1 9 r v (mI M2 m 0) ∧ STv Z b m o o' t n kb' T M2 ∧ mN M2 = mN M ∧ kb' ≤ kb + 47520 := by
  obtain ⟨c1, c2, LCo, c3, cA⟩ := STv_c S
  obtain ⟨e1, e2, e3, LA, eS, eI, e4, e5, e6⟩ := STv_m 0 S
  obtain ⟨pg, len, F, G, np, nO, ⟨h1, P, W, D, TRr, R, V⟩, hG, hF, g2, g3, x0, x4, t13⟩ := STv_w S
  have hp6 : np ≤ 6 := W.2.2.2.2.1.2.1
  have hng : nO ≤ 24 := W.2.2.2.2.2.1.2.1
  have bad : (x < 1 ∨ 60 < x) → f_X11_checkTides M x 60 = some (.inl 1, M) → ∃ r M1 v M2 kb', f_X11_pass Z M b x = some (r, M1) ∧ f_X14_pass M1 m x = some (v, M2) ∧ AGR 1 9 r v (mI M2 m 0) ∧ STv Z b m o o' t n kb' T M2 ∧ mN M2 = mN M ∧ kb' ≤ kb + 47520 := fun hb hc => by
    refine ⟨.inl 1, M, 0, wI (wI M m 0 0) m 0 1, kb, ?_, ?_, .inr (.inl ⟨rfl, wI_e _ _ _ _⟩), STv_0 (STv_0 S), rfl, by omega⟩
    · unfold f_X11_pass b_X11_pass_0
      rw [bx_t hc]
    · unfold f_X14_pass b_X14_pass_0
      rw [ck_t t13, lw_S, bd_s m_isIn, if_pos hb, if_pos rfl, ck_t e1, bd_s (m_no e1)]
  have i0 : (0 : Int32).toInt = 0 := by decide
  have i1 : (1 : Int32).toInt = 1 := by decide
  have i60 : (60 : Int32).toInt = 60 := by decide
  by_cases q1 : x < 1
  · refine bad (.inl q1) ?_
    unfold f_X11_checkTides b_X11_checkTides_0 b_X11_checkTides_10
    rw [if_pos q1]
  · by_cases q2 : x ≤ 60
    · have n1 : ¬ x < 0 := fun z => q1 (Int32.lt_iff_toInt_lt.mpr (by have := Int32.lt_iff_toInt_lt.mp z; omega))
      have q3 : ¬ 60 < x := fun z => by
        have z1 := Int32.lt_iff_toInt_lt.mp z
        have z2 := Int32.le_iff_toInt_le.mp q2
        omega
      obtain ⟨k, hk, hk2⟩ := nn_ex n1
      subst hk
      have k60 : k ≤ 60 := (nI_leI (b := 60) hk2 (by omega)).mp q2
      obtain ⟨A, hA⟩ : ∃ A, A = cutF 86 o M := ⟨_, rfl⟩
      rw [← hA] at cA P W D TRr R V
      obtain ⟨st, hst⟩ : ∃ st, st = cutF 17 (m + 24) M := ⟨_, rfl⟩
      rw [← hst] at R eS
      have ck : f_X11_checkTides M (nI k) 60 = some (.inr (), M) := by
        unfold f_X11_checkTides b_X11_checkTides_0
        rw [if_neg q1, if_pos q2]
      obtain ⟨A', p1, p2⟩ := s7_passTides (n := k) LCo (⟨P, W, D⟩ : WW Z pg o len M F G np nO A) hk2
      rw [cA] at p1
      have ccl : f_X11_pass Z M b (nI k) = some (.inr (incA pg len np nO F G (nz A) k), sC o A' M) := by
        unfold f_X11_pass b_X11_pass_0
        rw [bx_s ck, ck_t c1, dr_s c2, ck_t c3, bd_s p1]
      have W0 : WS (nz A) F G np nO := WS_c (eqT_nz A) W
      have D0 : WD (nz A) F G := WD_nz.mpr D
      have R0 : RS (nz A) st F G np := RS_nz (fun d hd => nz_e hd) R
      have V0 : SVa kb (nz A) F G := SVa_cg (fun d d1 d2 => nz_e (by omega)) hF hG V
      obtain ⟨tw1, tw2⟩ := tides_W (pg := pg) (len := len) W0 D0 k
      have hA' : ∀ d, (d < 8 ∨ 11 < d) → A' d = tidesA pg len np nO F G (nz A) k d := fun d hd => by rw [← p2, nz_e hd]
      obtain ⟨y1, y2⟩ := STv_y (A' := A') 0 S
      rw [← hst] at y1
      obtain ⟨X, hX⟩ : ∃ X, X = wI (sC o A' M) m 0 0 := ⟨_, rfl⟩
      have LX : LSt m t (m + 24) X := by rw [hX]; exact LA
      have mR13 : mR X m 13 = some (m + 24) := by rw [hX]; exact e3
      have yt : ∀ j, j < 17 → mI X (t + j) = mI M (t + j) := fun j hj => by rw [hX]; funext i; exact y2 j i hj
      rw [← hX] at y1
      have TX : TR pg len (nz A) X t F G np nO := TR_T hG hF hp6 hng (eqT_nz A) (TR_cg (fun _ _ _ => rfl) hF hG hp6 hng yt TRr)
      obtain ⟨st', R', lpv⟩ := r_tides (n := k) LX mR13 TX W0 D0 R0 h1 hk2 rfl
      rw [y1] at lpv
      have h5 := LX.2.2.1 5 (by omega) (by omega)
      have sm : f_X12_sum X (m + 24) (some (m + 24 + 5)) = some (sumN (fun i => nz A (34 + 2 * i) 4) F, X) := by
        have z := r_sum (st := st) LX (j := 5) (by omega) (by omega)
        rw [y1, RS_sto hF R0] at z
        exact z
      refine ⟨_, _, _, bC 17 (m + 24) st' X, kb + 792 * k, ccl, ?_, .inl ⟨rfl, ?_⟩, ?_, by rw [hX]; rfl, by omega⟩
      · unfold f_X14_pass b_X14_pass_0
        rw [ck_t (show mT (sC o A' M) m = 13 from t13), lw_S, ← hX, bd_s m_isIn, if_neg (show ¬ (nI k < 1 ∨ 60 < nI k) from fun z => z.elim q1 q3), if_neg (show ¬ (1 : Int32) = 0 by decide), ck_t LX.1.2.2.1, dr_s mR13, ck_t LX.1.1, show mR X (m + 24) 6 = some (m + 24 + 5) from h5.2.2, bd_s sm]
        exact lpv
      · rw [bC_Io (by omega), hX, wI_e]
      · rw [hX]
        refine STv_s S h1 (by rw [← hA]; exact P) (by rw [← hA]; exact W) (by rw [← hA]; exact TRr) ?_ (fun d d1 d2 => ?_) ?_ (RS_nz hA' R') (SVa_cg (fun d d1 d2 => hA' d (by omega)) hF hG (SVa_tides W0 D0 V0 k))
        · intro d i z
          have z' := z.1
          rw [hA' d (by unfold told at z'; omega), tw1 d i z', nz_e (by unfold told at z'; omega), hA]
        · rw [hA' d (by omega)]
          funext i
          rw [tides_o W0 D0 (by omega) k, nz_e (by omega), hA]
        · refine ⟨fun g hg s s1 s2 => ?_, fun f hf => ?_⟩
          · rw [hA' _ (by omega)]; exact tw2.1 g hg s s1 s2
          · have d2 := tw2.2 f hf
            unfold okF at d2 ⊢
            rw [hA' _ (by omega)]; exact d2
    · refine bad (.inr (Int32.lt_iff_toInt_lt.mpr ?_)) ?_
      · have : ¬ x.toInt ≤ (60 : Int32).toInt := fun z => q2 (Int32.le_iff_toInt_le.mpr z)
        omega
      · unfold f_X11_checkTides b_X11_checkTides_0 b_X11_checkTides_10
        rw [if_neg q1, if_neg q2]
