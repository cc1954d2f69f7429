/-! ## Pure: digest on both sides -/
/-- lots were drawn in the class, in the second State of the reference, and rows were made -/
theorem STv_l {Z pg : Nat → Nat} {b m o o' t n kb len F G np nO : Nat} {T : Nat → Nat} {M X : gMem} {A' : Nat → Nat → Int32} (S : STv Z b m o o' t n kb T M) (h1 : len ≤ 400) (P : PG Z pg o len M (cutF 86 o M)) (W : WS (cutF 86 o M) F G np nO) (D : WD (cutF 86 o M) F G) (TRr : TR pg len (cutF 86 o M) M t F G np nO) (R : RS (cutF 86 o M) (cutF 17 (m + 24) M) F G np) (V : SVa kb (cutF 86 o M) F G) (hz : ∀ d, (d < 8 ∨ 11 < d) → A' d = cutF 86 o M d) (hT : ∀ a, a < mN M → mT X a = mT M a ∧ mL X a = mL M a ∧ mR X a = mR M a) (hO : ∀ a, a < mN M → a ≠ m → ¬ (o ≤ a ∧ a < o + 86) → ¬ (m + 41 ≤ a ∧ a < m + 58) → mI X a = mI M a) (hA : ∀ d, d < 86 → mI X (o + d) = A' d) (hm : ∀ k, k ≠ 0 → mI X m k = mI M m k) (hN : mN M ≤ mN X) : STv Z b m o o' t n kb T X := by
  have hG : G ≤ 8 := W.2.1
  have hF : F ≤ 8 := W.2.2.2.1
  have S' := id S
  obtain ⟨s0, ⟨-, oo, -, ⟨L1, L2, F1, F2, P1, P2⟩, cN⟩, ⟨-, -, -, ⟨v1, v2, v3, v4⟩⟩, -, -⟩ := S'
  have hE : eqX (cutF 86 o M) A' := fun d k z => by
    rw [hz d (by unfold toldX told at z; omega)]
  have D' : WD A' F G := by
    refine ⟨fun g hg s s1 s2 => ?_, fun f' hf' => ?_⟩
    · rw [hz _ (by omega)]; exact D.1 g hg s s1 s2
    · have d2 := D.2 f' hf'
      unfold okF at d2 ⊢
      rw [hz _ (by omega)]; exact d2
  refine STv_u S (fun a h => ⟨(hT a h).1, (hT a h).2.1, fun _ => (hT a h).2.2⟩) (fun a i0 i1 i2 i3 => hO a i0 i1 (by omega) (by omega)) hm ⟨FRS_e F1 fun d i1 i2 => ?_, FRS_e F2 fun d i1 i2 => hO _ (by omega) (by omega) (by omega) (by omega), eqX_PSz P1 hE hA, PSz_e P2 fun d i1 i2 => hO _ (by omega) (by omega) (by omega) (by omega)⟩ (REL_u (st' := cutF 17 (m + 24) M) h1 P W TRr hE hA (fun d hd => ?_) (hT _ (by omega)).2.2 (fun j hj => hO _ (by omega) (by omega) (by omega) (by omega)) D' (RS_nz hz R) (SVa_cg (fun d i1 i2 => hz d (by omega)) hF hG V)) hN
  · rw [hA d (by omega), hz d (by omega), cutF_e (by omega)]
  · rw [hO _ (by omega) (by omega) (by omega) (by omega), cutF_e hd]
theorem T_digest {Z : Nat → Nat} {b m o o' t n kb : Nat} {T : Nat → Nat} {M : gMem} (S : STv Z b m o o' t n kb T M) : ∃ v M1 M2, f_X11_digest M b = some (v, M1) ∧ f_X14_digest M1 m = some (v, M2) ∧ STv Z b m o o' t n kb T M2 ∧ mN M1 = mN M ∧ mN M ≤ mN M2 ∧ mN M2 ≤ mN M + 132 := by
  obtain ⟨c1, c2, LCo, c3, cA⟩ := STv_c S
  obtain ⟨e1, e2, e3, LA, eS, eI, e4, e5, e6⟩ := STv_m 0 S
  obtain ⟨p1, p2, p3, p4, p5, p6, p7, p8, p9, p10, p11, p12, p13⟩ := STv_p S
  obtain ⟨pg, len, F, G, np, nO, ⟨h1, P, W, D, TRr, R, V⟩, hG, hF, g2, g3, x0, x4, t13⟩ := STv_w S
  have hp6 : np ≤ 6 := W.2.2.2.2.1.2.1
  obtain ⟨A', d1, nzA⟩ := c_digest LCo c1 c2 S.2.1.1.2.1 S.2.1.2.2.1.1.1 S.2.1.2.2.1.2.2.1 W (fun f hf => (R.1.2.2.2 f hf).2.2.2.2)
  have hz := nz_rows nzA
  obtain ⟨X, hX⟩ : ∃ X, X = wI (sC o A' M) m 0 0 := ⟨_, rfl⟩
  have xo : ∀ a, a ≠ m → (a < o ∨ o + 86 ≤ a) → mI X a = mI M a := fun a i1 i2 => by
    funext k
    rw [hX, wI_o (.inl i1), sC_Io i2]
  have oT : mT X = mT M := by rw [hX]; rfl
  have oL : mL X = mL M := by rw [hX]; rfl
  have oR : mR X = mR M := by rw [hX]; rfl
  have oN : mN X = mN M := by rw [hX]; rfl
  have hb : ∀ c, c < mN M → mT X c = mT M c ∧ mL X c = mL M c ∧ mR X c = mR M c := fun c _ => ⟨by rw [oT], by rw [oL], by rw [oR]⟩
  have K : WQa F G nO np (cutF 86 o M) (cutF 17 (m + 24) M) := ⟨⟨hF, hG, hp6⟩, ⟨W.1, W.2.2.1, W.2.2.2.2.2.1.1, W.2.2.2.2.1.1⟩, R, V.2.1, V.2.2.1, fun p hp => (TRr.2.2.2.2 p hp).2.2.2.imp id fun z => by obtain ⟨⟨g, hg, e⟩, -⟩ := z; exact ⟨g, by omega, e⟩⟩
  have S3 := S.2.2.1
  have WX : WQ m t n F G nO np (cutF 86 o M) (cutF 17 (m + 24) M) X := by
    refine ⟨⟨LS_e S3.2.2.1.1 hb (by omega) (by omega) (by omega), LS_e S3.2.2.1.2 hb (by omega) (by omega) (by omega), by rw [oR]; exact S3.2.1.2.1, by rw [oR]; exact S3.2.1.2.2, fun d hd => by rw [xo _ (by omega) (by omega), cutF_e hd]⟩, ⟨by omega, by omega, p5, p6⟩, by rw [xo t (by omega) (by omega)]; exact TRr.1, ?_, by rw [xo (t + 3) (by omega) (by omega), xo (t + 4) (by omega) (by omega), xo (t + 5) (by omega) (by omega)]; exact TRr.2.2.1, by rw [xo (t + 1) (by omega) (by omega)]; exact TRr.2.1, fun p hp => ?_⟩
    · rw [hX, wI_o (.inr (by decide)), sC_Io (by omega)]; exact S3.1.2.2.1
    · rw [xo (t + 8) (by omega) (by omega), xo (t + 9) (by omega) (by omega), xo (t + 10) (by omega) (by omega)]
      obtain ⟨u1, u2, u3, -⟩ := TRr.2.2.2.2 p hp
      obtain ⟨nn, n1, n2, n3, -⟩ := W.2.2.2.2.2.2.2 p hp
      exact ⟨u1, u2, u3 nn 0 n2 n3 (by omega)⟩
  obtain ⟨X2, l2, W2, Q2⟩ := ql_11 K WX
  have qN := Q2.1
  refine ⟨_, sC o A' M, X2, d1, ?_, STv_l S h1 P W D TRr R V hz (fun a h => ?_) (fun a i0 i1 i2 i3 => ?_) (fun d hd => ?_) (fun k hk => ?_) (by omega), rfl, by omega, by omega⟩
  · unfold f_X14_digest b_X14_digest_0
    rw [ck_t (show mT (sC o A' M) m = 13 from t13), lw_S, ← hX, show mN (sC o A' M) = mN X from oN.symm]
    exact l2
  · obtain ⟨z1, z2, z3, -⟩ := Q2.2 a (by omega)
    exact ⟨by rw [z1, oT], by rw [z2, oL], by rw [z3, oR]⟩
  · rw [(Q2.2 a (by omega)).2.2.2 (by omega), xo a i1 (by omega)]
  · rw [(Q2.2 _ (by omega)).2.2.2 (by omega)]
    funext k
    rw [hX, wI_o (.inl (by omega)), sC_I hd]
  · rw [(Q2.2 m (by omega)).2.2.2 (by omega), hX, wI_o (.inr hk), sC_Io (by omega)]
