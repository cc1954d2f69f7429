/-! ## Pure: the checksum of the reference -/
/-- what the checksum of the reference looks at -/
def WQ (m t n F G nO np : Nat) (A st : Nat → Nat → Int32) (X : gMem) : Prop :=
  (LSt m t (m + 24) X ∧ LSt m t (m + 41) X ∧ mR X m 13 = some (m + 24) ∧ mR X m 14 = some (m + 41) ∧ (∀ d, d < 17 → mI X (m + 24 + d) = st d)) ∧ (m + 58 ≤ mN X ∧ t + 17 ≤ mN X ∧ m + 7 ≤ t ∧ (t = m + 7 ∨ m + 58 ≤ t)) ∧
  (mI X t 0 = nI G ∧ mI X t 4 = nI F ∧ mI X t 8 = nI nO ∧ mI X t 11 = nI np) ∧ mI X m 2 = nI n ∧
  (∀ f, f < F → mI X (t + 3) f = A (34 + 2 * f) 0 ∧ mI X (t + 4) f = A (34 + 2 * f) 2 ∧ mI X (t + 5) f = A (34 + 2 * f) 3) ∧ (∀ g, g < G → mI X (t + 1) g = A (18 + 2 * g) 0) ∧
  ∀ p, p < np → mI X (t + 8) p = A (74 + 2 * p) 0 ∧ mI X (t + 9) p = A (74 + 2 * p) 3 ∧ mI X (t + 10) (8 * p) = A (75 + 2 * p) 0
/-- what of both is known beside -/
def WQa (F G nO np : Nat) (A st : Nat → Nat → Int32) : Prop :=
  (F ≤ 8 ∧ G ≤ 8 ∧ np ≤ 6) ∧ (A 0 2 = nI G ∧ A 0 3 = nI F ∧ A 0 4 = nI nO ∧ A 0 5 = nI np) ∧ RS A st F G np ∧ (∀ g, g < G → A (18 + 2 * g) 2 = sumN (fun f => A (35 + 2 * f) g) F) ∧ (∀ f, f < F → A (34 + 2 * f) 8 = sumN (fun g => A (35 + 2 * f) g) G) ∧ ∀ p, p < np → A (74 + 2 * p) 0 = -1 ∨ ∃ g, g < 8 ∧ A (74 + 2 * p) 0 = nI g
theorem WQ_b {m t n F G nO np : Nat} {A st : Nat → Nat → Int32} {X : gMem} (W : WQ m t n F G nO np A st X) : bC 17 (m + 24) st X = X := by
  have e : bC 17 (m + 24) st X = bC 17 (m + 24) (cutF 17 (m + 24) X) X := by
    unfold bC
    congr 1
    funext a k
    by_cases h : m + 24 ≤ a ∧ a < m + 24 + 17
    · rw [if_pos h, if_pos h, cutF_e (by omega), W.1.2.2.2.2 _ (by omega)]
    · rw [if_neg h, if_neg h]
  rw [e]
  exact bC_cut
theorem WQ_a {m t n F G nO np len j : Nat} {A st : Nat → Nat → Int32} {X : gMem} {vs : Nat → Int32} (W : WQ m t n F G nO np A st X) : WQ m t n F G nO np A st (aN X len vs j) := by
  obtain ⟨⟨a1, a2, a3, a4, a5⟩, ⟨b1, b2, b3, b4⟩, c, d, e, f, g⟩ := W
  have hN : mN (aN X len vs j) = mN X + 1 := (aN_f j).2.2.2.1
  have rI : ∀ a, a < mN X → mI (aN X len vs j) a = mI X a := fun a h => (aN_o j h).2.2.2
  have rm : mR (aN X len vs j) m = mR X m := (aN_o j (by omega)).2.2.1
  refine ⟨⟨LS_aN a1 (by omega) (by omega) (by omega), LS_aN a2 (by omega) (by omega) (by omega), by rw [rm]; exact a3, by rw [rm]; exact a4, fun d hd => by rw [rI _ (by omega)]; exact a5 d hd⟩, ⟨by omega, by omega, b3, b4⟩, by rw [rI t (by omega)]; exact c, by rw [rI m (by omega)]; exact d, by rw [rI (t + 3) (by omega), rI (t + 4) (by omega), rI (t + 5) (by omega)]; exact e, by rw [rI (t + 1) (by omega)]; exact f, by rw [rI (t + 8) (by omega), rI (t + 9) (by omega), rI (t + 10) (by omega)]; exact g⟩
theorem WQ_l {m t n F G nO np : Nat} {A st s : Nat → Nat → Int32} {X : gMem} (W : WQ m t n F G nO np A st X) : WQ m t n F G nO np A st (bC 17 (m + 41) s X) := by
  obtain ⟨⟨a1, a2, a3, a4, a5⟩, ⟨b1, b2, b3, b4⟩, c, d, e, f, g⟩ := W
  have rI : ∀ a, (a < m + 41 ∨ m + 41 + 17 ≤ a) → mI (bC 17 (m + 41) s X) a = mI X a := fun a h => by funext k; exact bC_Io h
  refine ⟨⟨a1, a2, a3, a4, fun d hd => by rw [rI _ (by omega)]; exact a5 d hd⟩, ⟨b1, b2, b3, b4⟩, by rw [rI t (by omega)]; exact c, by rw [rI m (by omega)]; exact d, by rw [rI (t + 3) (by omega), rI (t + 4) (by omega), rI (t + 5) (by omega)]; exact e, by rw [rI (t + 1) (by omega)]; exact f, by rw [rI (t + 8) (by omega), rI (t + 9) (by omega), rI (t + 10) (by omega)]; exact g⟩
theorem r_lotOf {m t n F G nO np f : Nat} {A st : Nat → Nat → Int32} {X : gMem} (W : WQ m t n F G nO np A st X) (K : WQa F G nO np A st) (hf : f < F) : ∃ s, f_X14_lotOf X m (nI f) = some (nI (ltA F (A 0 1) f), bC 17 (m + 41) s X) := by
  obtain ⟨⟨LX, LY, mR13, mR14, a5⟩, -, ⟨-, xf, -⟩, -⟩ := W
  obtain ⟨⟨hF, hG, hp6⟩, -, R, -⟩ := K
  have i8 : inb (nI f) 8 := (inbN (by omega)).mpr (by omega)
  have l1 : mI X (m + 24) 1 = A 0 1 := by rw [show m + 24 = m + 24 + 0 from rfl, a5 0 (by omega)]; exact R.2.1
  obtain ⟨st2, hst2⟩ : ∃ st2, st2 = up2 (cutF 17 (m + 41) X) 0 1 (A 0 1) := ⟨_, rfl⟩
  have W1 : wI X (m + 41) 1 (A 0 1) = bC 17 (m + 41) st2 X := by
    have W0 : ∀ Y, Y = bC 17 (m + 41) (cutF 17 (m + 41) X) X → wI Y (m + 41) 1 (A 0 1) = bC 17 (m + 41) st2 X := by
      rintro _ rfl
      rw [bC_W0 (by omega), hst2]
    exact W0 _ bC_cut.symm
  obtain ⟨st3, dr2, -, -, lt2⟩ := r_draw (st := st2) LY xf hF
  have s01 : st2 0 1 = A 0 1 := by rw [hst2, up2_eq]
  rw [s01] at lt2
  have h13 := LY.2.2.1 13 (by omega) (by omega)
  refine ⟨st3, ?_⟩
  obtain ⟨Y, hY⟩ : ∃ Y, Y = bC 17 (m + 41) st3 X := ⟨_, rfl⟩
  unfold f_X14_lotOf b_X14_lotOf_0
  rw [ck_t LX.1.2.2.1, dr_s mR13, ck_t LX.1.1, dr_s mR14, ck_t LY.1.1, l1, W1, lw_S, dr_s (show mR (bC 17 (m + 41) st2 X) m 14 = some (m + 41) from mR14), ck_t (show mT (bC 17 (m + 41) st2 X) (m + 41) = 11 from LY.1.1), bd_s dr2, ← hY, ck_t (show mT Y m = 13 by rw [hY]; exact LX.1.2.2.1), dr_s (show mR Y m 14 = some (m + 41) by rw [hY]; exact mR14), ck_t (show mT Y (m + 41) = 11 by rw [hY]; exact LY.1.1), dr_s (show mR Y (m + 41) 14 = some (m + 41 + 13) by rw [hY]; exact h13.2.2), ck_t (show mT Y (m + 41 + 13) = 20 by rw [hY]; exact h13.1), show mL Y (m + 41 + 13) = 8 by rw [hY]; exact h13.2.1, ck_t i8, nI_clamp (by omega)]
  have rd : mI Y (m + 41 + 13) f = nI (ltA F (A 0 1) f) := by rw [hY, bC_I (by omega), lt2 f hf]
  rw [rd]
theorem WQ_cv {m t n F G nO np c : Nat} {A st : Nat → Nat → Int32} {X : gMem} (W : WQ m t n F G nO np A st X) (K : WQa F G nO np A st) (hc : c < 10) : ∃ vs, f_X14_counted X m (nI c) = some (cvA A F G n c, aN X 10 vs 10) :=
  m_cv W.1.1 W.1.2.2.1 (WQ_b W) (by have := W.2.1; omega) W.2.1.2.1 W.2.2.1 K.2.1 W.2.2.2.1 K.1.1 K.1.2.1 (fun f hf => (W.2.2.2.2.1 f hf).1) K.2.2.1 hc
theorem WQ_gv {m t n F G nO np g c : Nat} {A st : Nat → Nat → Int32} {X : gMem} (W : WQ m t n F G nO np A st X) (K : WQa F G nO np A st) (hg : g < G) (hc : c < 9) : f_X14_groundTold X m (nI g) (nI c) = some (gvA A g c, X) :=
  m_gv W.1.1 W.1.1.1.2.2.1 W.1.1.1.2.2.2.1 W.1.2.2.1 W.1.1.1.2.2.2.2 W.1.1.1.1 (WQ_b W) W.2.2.1.2.1 K.1.1 K.1.2.1 hg (W.2.2.2.2.2.1 g hg) K.2.2.1 (K.2.2.2.1 g hg) hc
theorem WQ_fv {m t n F G nO np f c : Nat} {A st : Nat → Nat → Int32} {X : gMem} (W : WQ m t n F G nO np A st X) (K : WQa F G nO np A st) (hf : f < F) (hc : c < 10) : ∃ vs, f_X14_fisherTold X m (nI f) (nI c) = some (fvA A f c, aN X 10 vs 10) :=
  m_fv W.1.1 W.1.2.2.1 (WQ_b W) (by have := W.2.1; omega) W.2.1.2.1 W.2.2.1.1 K.1.1 K.1.2.1 hf (W.2.2.2.2.1 f hf) K.2.2.1 (K.2.2.2.2.1 f hf) hc
theorem WQ_pv {m t n F G nO np p c : Nat} {A st : Nat → Nat → Int32} {X : gMem} (W : WQ m t n F G nO np A st X) (K : WQa F G nO np A st) (hp : p < np) (hc : c < 7) : ∃ vs, f_X14_pactTold X m (nI p) (nI c) = some (pvA A p c, aN X 7 vs 7) :=
  m_pv W.1.1 W.1.2.2.1 (WQ_b W) (by have := W.2.1; omega) W.2.1.2.1 K.1.2.2 hp (W.2.2.2.2.2.2 p hp) (K.2.2.2.2.2 p hp) K.2.2.1 hc
/-- the memory grows by c rows behind what X0 has; the second State is free -/
def QX (m : Nat) (X0 X : gMem) (c : Nat) : Prop := mN X = mN X0 + c ∧ ∀ a, a < mN X0 → mT X a = mT X0 a ∧ mL X a = mL X0 a ∧ mR X a = mR X0 a ∧ ((a < m + 41 ∨ m + 58 ≤ a) → mI X a = mI X0 a)
theorem QX_a {m c len j : Nat} {X0 X : gMem} {vs : Nat → Int32} (Q : QX m X0 X c) : QX m X0 (aN X len vs j) (c + 1) := by
  have hN : mN (aN X len vs j) = mN X + 1 := (aN_f j).2.2.2.1
  refine ⟨by rw [hN, Q.1]; omega, fun a h => ?_⟩
  have q := Q.1
  obtain ⟨z1, z2, z3, z4⟩ := aN_o (X := X) (len := len) (vs := vs) (a := a) j (by omega)
  obtain ⟨y1, y2, y3, y4⟩ := Q.2 a h
  exact ⟨z1.trans y1, z2.trans y2, z3.trans y3, fun w => z4.trans (y4 w)⟩
theorem QX_l {m c : Nat} {X0 X : gMem} {s : Nat → Nat → Int32} (Q : QX m X0 X c) : QX m X0 (bC 17 (m + 41) s X) c :=
  ⟨Q.1, fun a h => ⟨(Q.2 a h).1, (Q.2 a h).2.1, (Q.2 a h).2.2.1, fun w => by rw [← (Q.2 a h).2.2.2 w]; funext k; exact bC_Io (by omega)⟩⟩
theorem QX_0 {m : Nat} {X0 : gMem} : QX m X0 X0 0 := ⟨rfl, fun _ _ => ⟨rfl, rfl, rfl, fun _ => rfl⟩⟩
