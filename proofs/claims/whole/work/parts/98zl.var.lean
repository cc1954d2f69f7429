/-! ## Pure: a fisher of a copy, changed; how much he has then -/
/-- the fisher f may be another, in his mesh and in whether he cheats -/
def eqM (f : Nat) (A B : Nat → Nat → Int32) : Prop := ∀ d k, (d ≠ 34 + 2 * f ∨ (k ≠ 9 ∧ k ≠ 1)) → B d k = A d k
theorem eqM_X {f : Nat} {A B : Nat → Nat → Int32} (hf : f < 8) (h : eqM f A B) : eqX A B := fun d k z => h d k (by
  unfold toldX told at z
  omega)
theorem eqM_d {f d : Nat} {A B : Nat → Nat → Int32} (h : eqM f A B) (hd : d ≠ 34 + 2 * f) : B d = A d := funext fun k => h d k (.inl hd)
theorem WD_m {f F G : Nat} {A B : Nat → Nat → Int32} (h : eqM f A B) (hm : ∃ c, 1 ≤ c ∧ c ≤ 6 ∧ B (34 + 2 * f) 1 = nI c) (hG : G ≤ 8) (D : WD A F G) : WD B F G := by
  refine ⟨fun g hg s s1 s2 => ?_, fun f' hf' => ?_⟩
  · rw [h _ s (.inl (by omega))]; exact D.1 g hg s s1 s2
  · have d2 := D.2 f' hf'
    unfold okF at d2 ⊢
    rw [h _ 2 (.inr (by omega)), h _ 3 (.inr (by omega))]
    by_cases e : f' = f
    · subst e; exact ⟨hm, d2.2⟩
    · rw [h _ 1 (.inl (by omega))]; exact d2
theorem SVa_m {f F G kb : Nat} {A B : Nat → Nat → Int32} (h : eqM f A B) (V : SVa kb A F G) : SVa kb B F G := by
  refine ⟨fun f' hf' => ?_, fun g hg => ?_, fun f' hf' => ?_, fun f' hf' => ?_⟩
  · rw [h _ 4 (.inr (by omega))]; exact V.1 f' hf'
  · rw [h _ 2 (.inr (by omega)), V.2.1 g hg]
    exact sumN_c F fun i hi => by rw [h _ g (.inl (by omega))]
  · rw [h _ 8 (.inr (by omega)), V.2.2.1 f' hf']
    exact sumN_c G fun i hi => by rw [h _ i (.inl (by omega))]
  · rw [h _ 0 (.inr (by omega))]; exact V.2.2.2 f' hf'
theorem RS_m {f F G np : Nat} {A B st : Nat → Nat → Int32} (hf : f < F) (hG : G ≤ 8) (h : eqM f A B) (h9 : B (34 + 2 * f) 9 = 0 ∨ B (34 + 2 * f) 9 = 1) (hp6 : np ≤ 6) (R : RS A st F G np) : RS B (up2 (up2 st 9 f (B (34 + 2 * f) 9)) 4 f (B (34 + 2 * f) 1)) F G np := by
  obtain ⟨s2, hs2⟩ : ∃ s2, s2 = up2 (up2 st 9 f (B (34 + 2 * f) 9)) 4 f (B (34 + 2 * f) 1) := ⟨_, rfl⟩
  rw [← hs2]
  have so : ∀ d, d ≠ 9 → d ≠ 4 → s2 d = st d := fun d d9 d4 => by rw [hs2, up2_d d4, up2_d d9]
  have s9 : ∀ f', s2 9 f' = if f' = f then B (34 + 2 * f) 9 else st 9 f' := fun f' => by
    rw [hs2, up2_d (by omega)]
    by_cases e : f' = f
    · subst e; rw [up2_eq, if_pos rfl]
    · rw [up2_ne (.inr e), if_neg e]
  have s4 : ∀ f', s2 4 f' = if f' = f then B (34 + 2 * f) 1 else st 4 f' := fun f' => by
    rw [hs2]
    by_cases e : f' = f
    · subst e; rw [up2_eq, if_pos rfl]
    · rw [up2_ne (.inr e), up2_d (by omega), if_neg e]
  obtain ⟨⟨b1, b2, b3, b4⟩, ⟨d1, d2, d3, d4, d5, d6⟩⟩ := R
  refine ⟨⟨?_, fun g k hg hk => ?_, fun g hg => ?_, fun f' hf' => ?_⟩, ⟨?_, fun i i1 i2 => ?_, fun g f' hg hf' => ?_, fun f' hf' => ?_, fun f' i1 i2 => ?_, fun p hp => ?_⟩⟩
  · rw [so 0 (by omega) (by omega), h 0 0 (by omega)]; exact b1
  · rw [so 1 (by omega) (by omega), h _ _ (.inl (by omega))]; exact b2 g k hg hk
  · rw [so 2 (by omega) (by omega), h _ 1 (.inl (by omega))]; exact b3 g hg
  · rw [s4, so 5 (by omega) (by omega), so 6 (by omega) (by omega), s9, h _ 4 (.inr (by omega)), h _ 5 (.inr (by omega))]
    obtain ⟨u1, u2, u3, u4, u5⟩ := b4 f' hf'
    by_cases e : f' = f
    · subst e; rw [if_pos rfl, if_pos rfl]; exact ⟨rfl, u2, u3, rfl, h9⟩
    · rw [if_neg e, if_neg e, h _ 1 (.inl (by omega)), h _ 9 (.inl (by omega))]; exact ⟨u1, u2, u3, u4, u5⟩
  · rw [so 0 (by omega) (by omega), h 0 1 (by omega)]; exact d1
  · rw [so 1 (by omega) (by omega)]; exact d2 i i1 i2
  · rw [so 3 (by omega) (by omega), h _ _ (.inl (by omega))]; exact d3 g f' hg hf'
  · rw [so 7 (by omega) (by omega), so 8 (by omega) (by omega), h _ 6 (.inr (by omega)), h _ 7 (.inr (by omega))]; exact d4 f' hf'
  · rw [so 5 (by omega) (by omega), s9, if_neg (by omega)]; exact d5 f' i1 i2
  · rw [so 10 (by omega) (by omega), so 11 (by omega) (by omega), so 12 (by omega) (by omega), h _ 5 (.inr (by omega)), h _ 6 (.inr (by omega)), h _ 7 (.inr (by omega))]; exact d6 p hp
/-- what the reference says of the fisher f behind k tides, with the flag u and the mesh w, wherever it looks -/
def VAL (m o' : Nat) (M : gMem) (f k : Nat) (u w v : Int32) : Prop := ∀ Y, AFr m o' M Y → ∃ Y', f_X14_storeAs Y m (nI f) (nI k) u w = some (v, Y') ∧ AFr m o' M Y' ∧ mI Y' m = mI Y m
theorem m_storeAs {Z pg : Nat → Nat} {b m o o' t n kb len F G np ng f k : Nat} {T : Nat → Nat} {M : gMem} {B : Nat → Nat → Int32} (S : STv Z b m o o' t n kb T M) (R : RS (cutF 86 o M) (cutF 17 (m + 24) M) F G np) (h1 : len ≤ 400) (hf : f < F) (hk : k ≤ 60) (W : WS B F G np ng) (D : WD B F G) (TRr : TR pg len B M t F G np ng) (hR : ∀ st, RS (cutF 86 o M) st F G np → RS B (up2 (up2 st 9 f (B (34 + 2 * f) 9)) 4 f (B (34 + 2 * f) 1)) F G np) : VAL m o' M f k (B (34 + 2 * f) 9) (B (34 + 2 * f) 1) (tidesA pg len np ng F G B k (34 + 2 * f) 4) := by
  intro Y AF
  obtain ⟨p1, p2, p3, p4, p5, p6, p7, p8, p9, p10, p11, -, -⟩ := STv_p S
  have hF : F ≤ 8 := W.2.2.2.1
  have hG : G ≤ 8 := W.2.1
  have hp6 : np ≤ 6 := W.2.2.2.2.1.2.1
  have hng : ng ≤ 24 := W.2.2.2.2.2.1.2.1
  have hf8 : f < 8 := by omega
  have i8 : inb (nI f) 8 := (inbN (by omega)).mpr hf8
  obtain ⟨a1, a2, a3, a4, LA', LB', aT, aS, a5⟩ := m_AF S AF
  obtain ⟨st', b1, R'⟩ := m_look S AF hF hG hp6 R
  obtain ⟨u, hu⟩ : ∃ u, u = B (34 + 2 * f) 9 := ⟨_, rfl⟩
  obtain ⟨w, hw⟩ : ∃ w, w = B (34 + 2 * f) 1 := ⟨_, rfl⟩
  obtain ⟨s2, hs2⟩ : ∃ s2, s2 = up2 (up2 st' 9 f u) 4 f w := ⟨_, rfl⟩
  have R2 : RS B s2 F G np := by rw [hs2, hu, hw]; exact hR st' R'
  rw [← hu, ← hw]
  obtain ⟨sq, q0, qs⟩ := r_seq LB' (TR_cg (fun _ _ _ => rfl) hF hG hp6 hng aT TRr) W D R2 h1
  have h9 := LB'.2.2.1 9 (by omega) (by omega)
  have h4 := LB'.2.2.1 4 (by omega) (by omega)
  have h5 := LB'.2.2.1 5 (by omega) (by omega)
  refine ⟨bC 17 (m + 41) (sq k) Y, ?_, AFr_b (by omega) AF, by funext c; exact bC_Io (by omega)⟩
  have w1 : wI (bC 17 (m + 41) st' Y) (m + 41 + 9) (nI f).toNatClampNeg u = bC 17 (m + 41) (up2 st' 9 f u) Y := by rw [nI_clamp (by omega)]; exact bC_W (by omega)
  have w2 : wI (bC 17 (m + 41) (up2 st' 9 f u) Y) (m + 41 + 4) (nI f).toNatClampNeg w = bC 17 (m + 41) s2 Y := by rw [nI_clamp (by omega), bC_W (by omega), hs2]
  unfold f_X14_storeAs b_X14_storeAs_0
  rw [ck_t a1, dr_s a4, ck_t LB'.1.1, a3, bd_s b1, ck_t (show mT (bC 17 (m + 41) st' Y) m = 13 from a1), dr_s (show mR (bC 17 (m + 41) st' Y) m 14 = some (m + 41) from a4), ck_t (show mT (bC 17 (m + 41) st' Y) (m + 41) = 11 from LB'.1.1), dr_s (show mR (bC 17 (m + 41) st' Y) (m + 41) 10 = some (m + 41 + 9) from h9.2.2), ck_t (show mT (bC 17 (m + 41) st' Y) (m + 41 + 9) = 20 from h9.1), ck_t (show inb (nI f) (mL (bC 17 (m + 41) st' Y) (m + 41 + 9)) from (show mL (bC 17 (m + 41) st' Y) (m + 41 + 9) = 8 from h9.2.1) ▸ i8), w1, lw_S]
  rw [dr_s (show mR (bC 17 (m + 41) (up2 st' 9 f u) Y) m 14 = some (m + 41) from a4), ck_t (show mT (bC 17 (m + 41) (up2 st' 9 f u) Y) (m + 41) = 11 from LB'.1.1), dr_s (show mR (bC 17 (m + 41) (up2 st' 9 f u) Y) (m + 41) 5 = some (m + 41 + 4) from h4.2.2), ck_t (show mT (bC 17 (m + 41) (up2 st' 9 f u) Y) (m + 41 + 4) = 20 from h4.1), ck_t (show inb (nI f) (mL (bC 17 (m + 41) (up2 st' 9 f u) Y) (m + 41 + 4)) from (show mL (bC 17 (m + 41) (up2 st' 9 f u) Y) (m + 41 + 4) = 8 from h4.2.1) ▸ i8), w2, lw_S]
  unfold lp_X14_storeAs_35
  rw [← q0]
  refine lp_seq (f := fun (q : gMem × Int32) => bb_X14_storeAs_35 q.1 m (nI f) (nI k) q.2) (fun j => (bC 17 (m + 41) (sq j) Y, nI j)) 0 k (Nat.zero_le _) (fun j _ hj => ?_) ?_
  · show bb_X14_storeAs_35 (bC 17 (m + 41) (sq j) Y) m (nI f) (nI k) (nI j) = _
    have q1 : ¬ nI k ≤ nI j := fun q => by have := (nI_leI (by omega) (by omega)).mp q; omega
    unfold bb_X14_storeAs_35
    rw [if_neg q1, ck_t (show mT (bC 17 (m + 41) (sq j) Y) m = 13 from a1), dr_s (show mR (bC 17 (m + 41) (sq j) Y) m 14 = some (m + 41) from a4), ck_t (show mT (bC 17 (m + 41) (sq j) Y) (m + 41) = 11 from LB'.1.1), bd_s (qs j).2, nI_1]
  · show bb_X14_storeAs_35 (bC 17 (m + 41) (sq k) Y) m (nI f) (nI k) (nI k) = _
    unfold bb_X14_storeAs_35
    rw [if_pos (nI_le (Nat.le_refl _) (by omega)), ck_t (show mT (bC 17 (m + 41) (sq k) Y) m = 13 from a1), dr_s (show mR (bC 17 (m + 41) (sq k) Y) m 14 = some (m + 41) from a4), ck_t (show mT (bC 17 (m + 41) (sq k) Y) (m + 41) = 11 from LB'.1.1), dr_s (show mR (bC 17 (m + 41) (sq k) Y) (m + 41) 6 = some (m + 41 + 5) from h5.2.2), ck_t (show mT (bC 17 (m + 41) (sq k) Y) (m + 41 + 5) = 20 from h5.1), ck_t (show inb (nI f) (mL (bC 17 (m + 41) (sq k) Y) (m + 41 + 5)) from (show mL (bC 17 (m + 41) (sq k) Y) (m + 41 + 5) = 8 from h5.2.1) ▸ i8), nI_clamp (by omega), bC_I (by omega), ((qs k).1.1.2.2.2 f hf).2.1]
    rfl
/-- the class's look with a fisher changed -/
theorem c_var {Z pg : Nat → Nat} {b m o o' t n kb len F G np ng f k c : Nat} {T : Nat → Nat} {M X : gMem} {v : Int32} (S : STv Z b m o o' t n kb T M) (O : OFr o' M X) (h1 : len ≤ 400) (P : PG Z pg o len M (cutF 86 o M)) (W : WS (cutF 86 o M) F G np ng) (D : WD (cutF 86 o M) F G) (TRr : TR pg len (cutF 86 o M) M t F G np ng) (R : RS (cutF 86 o M) (cutF 17 (m + 24) M) F G np) (V : SVa kb (cutF 86 o M) F G) (hf : f < F) (hk : k ≤ 60) (hc : (c = 9 ∧ (v = 0 ∨ v = 1)) ∨ (c = 1 ∧ ∃ e, 1 ≤ e ∧ e ≤ 6 ∧ v = nI e)) : ∃ X1 X2 y a, f_X11_lookAhead Z X b = some (some o', X1) ∧ OFr o' M X1 ∧ f_X7_passTides Z (wI X1 (o' + (34 + 2 * f)) c v) o' (nI k) = some (y, X2) ∧ OFr o' M X2 ∧ mI X2 (o' + (34 + 2 * f)) 4 = nI a ∧ a ≤ kb + 792 * k ∧ VAL m o' M f k (if c = 9 then v else cutF 86 o M (34 + 2 * f) 9) (if c = 1 then v else cutF 86 o M (34 + 2 * f) 1) (nI a) := by
  obtain ⟨p1, p2, p3, p4, p5, p6, p7, p8, p9, p10, p11, -, -⟩ := STv_p S
  have hF : F ≤ 8 := W.2.2.2.1
  have hG : G ≤ 8 := W.2.1
  have hp6 : np ≤ 6 := W.2.2.2.2.1.2.1
  have hng : ng ≤ 24 := W.2.2.2.2.2.1.2.1
  obtain ⟨X1, x1, O1, C1, P1⟩ := c_look S O P W R
  obtain ⟨A2, hA2⟩ : ∃ A2, A2 = up2 (cutF 86 o' X1) (34 + 2 * f) c v := ⟨_, rfl⟩
  have eM : eqM f (cutF 86 o' X1) A2 := fun d i z => by
    rw [hA2]
    refine up2_ne ?_
    omega
  have eX := eqM_X (by omega) eM
  have W1 := WS_x eX (WS_k C1 W)
  have m1 : A2 (34 + 2 * f) 1 = if c = 1 then v else cutF 86 o M (34 + 2 * f) 1 := by
    by_cases q : c = 1
    · subst q; rw [hA2, up2_eq, if_pos rfl]
    · rw [if_neg q, hA2, up2_ne (.inr (fun z => q z.symm))]; exact C1.2.2.2.2.2.1 f 1 hf (by omega)
  have m9 : A2 (34 + 2 * f) 9 = if c = 9 then v else cutF 86 o M (34 + 2 * f) 9 := by
    by_cases q : c = 9
    · subst q; rw [hA2, up2_eq, if_pos rfl]
    · rw [if_neg q, hA2, up2_ne (.inr (fun z => q z.symm))]; exact C1.2.2.2.2.2.1 f 9 hf (by omega)
  have k1 : ∃ e, 1 ≤ e ∧ e ≤ 6 ∧ A2 (34 + 2 * f) 1 = nI e := by
    rw [m1]
    by_cases q : c = 1
    · rw [if_pos q]
      obtain z | z := hc
      · omega
      · exact z.2
    · rw [if_neg q]; exact (D.2 f hf).1
  have k9 : A2 (34 + 2 * f) 9 = 0 ∨ A2 (34 + 2 * f) 9 = 1 := by
    rw [m9]
    by_cases q : c = 9
    · rw [if_pos q]
      obtain z | z := hc
      · exact z.2
      · omega
    · rw [if_neg q]; exact (R.1.2.2.2 f hf).2.2.2.2
  have D1 := WD_m eM k1 hG (WD_k C1 D)
  have P2 : PG Z pg o' len X1 A2 := PG_congr P1 (eqM_d eM (by omega)) (eqM_d eM (by omega))
  obtain ⟨A', q1, q2, O2, LX, W0, D0⟩ := c_run (n := k) p8 O1 P2 W1 D1 (fun d d1 d2 => eqM_d eM (by omega)) (fun q hq => by rw [eqM_d eM (by omega)]) (by omega)
  have V0 : SVa kb (nz A2) F G := SVa_cg (fun d d1 d2 => nz_e (by omega)) hF hG (SVa_m eM (SVa_k hG C1 V))
  obtain ⟨a, a1, a2⟩ := (SVa_tides (pg := pg) (len := len) W0 D0 V0 k).1 f hf
  have z1 : nz A2 (34 + 2 * f) = A2 (34 + 2 * f) := nz_e (by omega)
  have vl := m_storeAs (B := nz A2) S R h1 hf hk W0 D0 (TR_T hG hF hp6 hng (eqT_nz A2) (TR_x hG hF hp6 hng eX (TR_k C1 TRr))) (fun st r => by
    rw [z1]
    exact RS_nz (fun d hd => nz_e hd) (RS_m hf hG eM k9 hp6 (RS_k hG C1 r)))
  rw [z1, m1, m9, a2] at vl
  refine ⟨X1, sC o' A' X1, incA pg len np ng F G (nz A2) k, a, x1, O1, ?_, O2, ?_, a1, vl⟩
  · rw [← q1]
    have W2 : ∀ Y, Y = sC o' (cutF 86 o' X1) X1 → wI Y (o' + (34 + 2 * f)) c v = sC o' A2 X1 := by
      rintro _ rfl
      rw [sC_W (by omega), hA2]
    rw [W2 _ sC_cut.symm]
  · rw [sC_I (by omega), q2 _ (by omega), a2]
