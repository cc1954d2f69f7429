/-! ## Pure: a tide of the reference -/
theorem lp_ex {α β : Type} {f : α → Option (α ⊕ β)} (P : Nat → α → Prop) (n : Nat) (h : ∀ j a, j < n → P j a → ∃ a', f a = some (.inl a') ∧ P (j + 1) a') : ∀ d i a, i + d = n → P i a → ∃ a', P n a' ∧ lp f a = lp f a'
  | 0, i, a, hi, ha => by
    have : i = n := by omega
    subst this
    exact ⟨a, ha, rfl⟩
  | d + 1, i, a, hi, ha => by
    obtain ⟨a1, e1, p1⟩ := h i a (by omega) ha
    obtain ⟨a2, p2, e2⟩ := lp_ex P n h d (i + 1) a1 (by omega) p1
    exact ⟨a2, p2, (lp_in e1).trans e2⟩
theorem lp_oI {α β : Type} {f : α → Option (α ⊕ β)} {a : α} {x : Option β} (h : f a = oI x) : lp f a = x := by
  rw [lp_eq, h]
  cases x <;> rfl
/-- a row of catches has what a Shore has -/
def cR (C : Nat → Int32) (S : Nat → Nat → Int32) (F : Nat) : Prop := ∀ f, f < F → C f = S (34 + 2 * f) 5
theorem cR_add {C : Nat → Int32} {S : Nat → Nat → Int32} {F f : Nat} {v : Int32} (h : cR C S F) (hf : f < F) : cR (up1 C f (C f + v)) (add5 S f v) F := by
  intro f' hf'
  by_cases c : f' = f
  · subst c
    rw [up1_e, add5_e, h f' hf']
  · rw [up1_o c, add5_o (by omega), h f' hf']
theorem r_spl1 {m t a F G len np ng p n j : Nat} {A st : Nat → Nat → Int32} {c0 : Nat → Int32} {M : gMem} {pg : Nat → Nat} (L : LSt m t a M) (T : TR pg len A M t F G np ng) (W : WS A F G np ng) (R : RE A st F G) (hp : p < np) (n3 : A (74 + 2 * p) 3 = nI n) (n2 : n ≤ 8) (hj : j < n) (f : Nat) (hf : f < F) (ef : A (75 + 2 * p) j = nI f) (hc : cR c0 (spN A p j).1 F) (h9 : ∀ f', (spN A p j).1 (34 + 2 * f') 9 = A (34 + 2 * f') 9) (hm : memA (spN A p j).1 p j = f) : ∃ c1, bb_X12_split_21 (bC 17 a (up1 st 6 c0) M) a (nI p) (spN A p j).2.1 (spN A p j).2.2 (nI n) (nI j) = some (.inl (bC 17 a (up1 st 6 c1) M, (spN A p (j + 1)).2.1, (spN A p (j + 1)).2.2, nI (j + 1))) ∧ cR c1 (spN A p (j + 1)).1 F := by
  have hF : F ≤ 8 := W.2.2.2.1
  have hnp : np ≤ 6 := W.2.2.2.2.1.2.1
  obtain ⟨-, -, b3, -⟩ := T.2.2.2.2 p hp
  obtain ⟨-, -, -, c4, c5⟩ := R.2.2.2 f hf
  have q1 : ¬ nI n ≤ nI j := fun q => by have := (nI_leI (by omega) (by omega)).mp q; omega
  have i2 : inb (nI (8 * p + j)) 48 := (inbN (by omega)).mpr (by omega)
  have i3 : inb (nI f) 8 := (inbN (by omega)).mpr (by omega)
  have ee : spN A p (j + 1) = sp1 p j (spN A p j) := rfl
  have u9 : up1 st 6 c0 9 f = A (34 + 2 * f) 9 := by rw [up1_o (by omega), c4]
  have u6 : up1 st 6 c0 6 f = (spN A p j).1 (34 + 2 * f) 5 := by rw [up1_e, hc f hf]
  have hs : shwA (spN A p j).1 f = if A (34 + 2 * f) 9 = 0 then (spN A p j).1 (34 + 2 * f) 5 else (spN A p j).1 (34 + 2 * f) 5 / 2 := by
    unfold shwA; rw [h9]
  have n01 : ¬ (0 : Int32) = 1 := by decide
  have n10 : ¬ (1 : Int32) = 0 := by decide
  refine ⟨up1 c0 f ((spN A p j).1 (34 + 2 * f) 5 - shwA (spN A p j).1 f), ?_, ?_⟩
  · rw [ee]
    unfold sp1
    rw [hm, hs]
    unfold bb_X12_split_21 b_X12_split_78
    rw [if_neg q1, ck_t (q_T L), dr_s (q_R18 L), ck_t (q_Tm L), dr_s (q_Rm L), ck_t (q_Tt L), dr_s (q_r14 L), ck_t (q_t10 L), q_l10 L, m8, nI_add, ck_t i2, q_Ic L (by omega) (by omega), b3 n j (by omega) n3 hj, ef, dr_s (q_R10 L), ck_t (q_T9 L), q_L9 L, ck_t i3, bC_Ic (by omega) (by omega), u9]
    rcases c5 with h | h
    · rw [h, if_neg n01, if_pos rfl, dr_s (q_R7 L), ck_t (q_T6 L), q_L6 L, ck_t i3, ck_t (q_T L), dr_s (q_R7 L), ck_t (q_T6 L), q_L6 L, ck_t i3, ck_t i3, bC_Ic (by omega) (by omega), u6, bC_Wc (by omega) (by omega), up2_up1s]
      simp only [lw_S]
      rw [dr_s (q_R7 L), ck_t (q_T6 L), q_L6 L, ck_t i3, bC_Ic (by omega) (by omega), up1_e, up1_e, nI_1]
    · rw [h, if_neg n10, if_pos rfl, dr_s (q_R7 L), ck_t (q_T6 L), q_L6 L, ck_t i3, ck_t (q_T L), dr_s (q_R7 L), ck_t (q_T6 L), q_L6 L, ck_t i3, ck_t i3, bC_Ic (by omega) (by omega), u6, bC_Wc (by omega) (by omega), up2_up1s]
      simp only [lw_S]
      rw [dr_s (q_R7 L), ck_t (q_T6 L), q_L6 L, ck_t i3, bC_Ic (by omega) (by omega), up1_e, up1_e, nI_1]
  · rw [ee]
    unfold sp1
    intro f' hf'
    dsimp only
    rw [hm]
    by_cases c : f' = f
    · subst c
      rw [up1_e, up2_eq]
    · rw [up1_o c, up2_ne (by omega), hc f' hf']
theorem r_split {m t a F G len np ng p n : Nat} {A st : Nat → Nat → Int32} {M : gMem} {pg : Nat → Nat} (L : LSt m t a M) (T : TR pg len A M t F G np ng) (W : WS A F G np ng) (R : RS A st F G np) (hp : p < np) (n1 : 1 ≤ n) (n2 : n ≤ 8) (n3 : A (74 + 2 * p) 3 = nI n) (n4 : ∀ i, i < n → ∃ f, f < F ∧ A (75 + 2 * p) i = nI f) : ∃ st', f_X12_split (bC 17 a st M) a (nI p) = some ((), bC 17 a st' M) ∧ RS (splA A p n) st' F G np := by
  have hF : F ≤ 8 := W.2.2.2.1
  have hG : G ≤ 8 := W.2.1
  have hnp : np ≤ 6 := W.2.2.2.2.1.2.1
  obtain ⟨R1, R2⟩ := R
  obtain ⟨-, b2, b3, -⟩ := T.2.2.2.2 p hp
  have hP : okP A p n := fun i hi => by
    obtain ⟨f, hf, ef⟩ := n4 i hi
    exact ⟨f, by omega, ef⟩
  have hPj : ∀ j, j ≤ n → okP A p j := fun j hj i hi => hP i (by omega)
  have i1 : inb (nI p) 6 := (inbN (by omega)).mpr (by omega)
  have q0 : ¬ nI n = 0 := nI_ne0 (by omega) (by omega)
  obtain ⟨f0, hf0, ef0⟩ := n4 0 (by omega)
  have e75 : ∀ j i, j ≤ n → (spN A p j).1 (75 + 2 * p) i = A (75 + 2 * p) i := fun j i hj => spN_o j (fun f _ => by omega) (hPj j hj)
  -- what is shown
  obtain ⟨⟨M1, x1, y1, k1⟩, ⟨c1, q1, hc1⟩, e1⟩ := lp_ex (f := fun (q : gMem × Int32 × Int32 × Int32) => bb_X12_split_21 q.1 a (nI p) q.2.1 q.2.2.1 (nI n) q.2.2.2) (fun j q => ∃ c, q = (bC 17 a (up1 st 6 c) M, (spN A p j).2.1, (spN A p j).2.2, nI j) ∧ cR c (spN A p j).1 F) n (fun j q hj ⟨c, hq, hc⟩ => by
    obtain ⟨f, hf, ef⟩ := n4 j hj
    subst hq
    have hm : memA (spN A p j).1 p j = f := by unfold memA; rw [e75 j j (by omega), ef, nI_clamp (by omega)]
    obtain ⟨c1, g1, g2⟩ := r_spl1 L T W R1 hp n3 n2 hj f hf ef hc (fun f' => spN_o j (fun f _ => by omega) (hPj j (by omega))) hm
    exact ⟨_, g1, c1, rfl, g2⟩) n 0 (bC 17 a (up1 st 6 (st 6)) M, (spN A p 0).2.1, (spN A p 0).2.2, nI 0) (by omega) ⟨st 6, rfl, fun f hf => (R1.2.2.2 f hf).2.2.1⟩
  cases q1
  rw [up1_self] at e1
  obtain ⟨S, hS⟩ : ∃ S, S = spN A p n := ⟨_, rfl⟩
  rw [← hS] at e1 hc1
  obtain ⟨v, hv⟩ : ∃ v, v = S.2.1 / nI n := ⟨_, rfl⟩
  obtain ⟨w, hw⟩ : ∃ w, w = S.2.1 - S.2.1 / nI n * nI n := ⟨_, rfl⟩
  have hP2 : okP S.1 p n := fun i hi => by
    obtain ⟨f, hf, ef⟩ := hP i hi
    exact ⟨f, hf, by rw [hS, e75 n i (Nat.le_refl _), ef]⟩
  have hPj2 : ∀ j, j ≤ n → okP S.1 p j := fun j hj i hi => hP2 i (by omega)
  have f75 : ∀ j i, j ≤ n → shN S.1 p v j (75 + 2 * p) i = A (75 + 2 * p) i := fun j i hj => by
    rw [shN_o j (fun f _ => by omega) (hPj2 j hj), hS, e75 n i (Nat.le_refl _)]
  -- shares
  have step2 : ∀ j c f (u : Int32), j < n → f < F → A (75 + 2 * p) j = nI f → (if j = 0 then w else 0) = u → bb_X12_split_116 (bC 17 a (up1 st 6 c) M) a (nI p) S.2.1 S.2.2 (nI n) (nI j) = some (.inl (bC 17 a (up1 st 6 (up1 c f (c f + (v + u)))) M, nI (j + 1))) := by
    intro j c f u hj hf ef hu
    have q1 : ¬ nI n ≤ nI j := fun q => by have := (nI_leI (by omega) (by omega)).mp q; omega
    have i2 : inb (nI (8 * p + j)) 48 := (inbN (by omega)).mpr (by omega)
    have i3 : inb (nI f) 8 := (inbN (by omega)).mpr (by omega)
    unfold bb_X12_split_116 b_X12_split_164
    rw [if_neg q1, ck_t (q_T L), dr_s (q_R18 L), ck_t (q_Tm L), dr_s (q_Rm L), ck_t (q_Tt L), dr_s (q_r14 L), ck_t (q_t10 L), q_l10 L, m8, nI_add, ck_t i2, q_Ic L (by omega) (by omega), b3 n j (by omega) n3 hj, ef, dr_s (q_R7 L), ck_t (q_T6 L), q_L6 L, ck_t i3, ck_t q0, ← hv]
    by_cases c0 : j = 0
    · subst c0
      rw [if_pos rfl] at hu
      have hw' : S.2.1 - v * nI n = w := by rw [hw, hv]
      rw [if_pos (show nI 0 = (0 : Int32) from rfl), ck_t q0, dr_s (q_R7 L), ck_t (q_T6 L), q_L6 L, ck_t i3, bC_Ic (by omega) (by omega), up1_e, bC_Wc (by omega) (by omega), up2_up1s, hw', hu, nI_1]
      rfl
    · rw [if_neg c0] at hu
      have q2 : ¬ nI j = 0 := nI_ne0 (by omega) (by omega)
      rw [if_neg q2, dr_s (q_R7 L), ck_t (q_T6 L), q_L6 L, ck_t i3, bC_Ic (by omega) (by omega), up1_e, bC_Wc (by omega) (by omega), up2_up1s, hu, nI_1]
      rfl
  have em0 : memA S.1 p 0 = f0 := by unfold memA; rw [hS, e75 n 0 (Nat.le_refl _), ef0, nI_clamp (by omega)]
  have emA : memA A p 0 = f0 := by unfold memA; rw [ef0, nI_clamp (by omega)]
  have first := step2 0 c1 f0 w (by omega) hf0 ef0 (if_pos rfl)
  have hc2 : cR (up1 c1 f0 (c1 f0 + (v + w))) (add5 (shN S.1 p v 1) f0 w) F := by
    have : add5 (shN S.1 p v 1) f0 w = add5 S.1 f0 (v + w) := by
      show add5 (add5 S.1 (memA S.1 p 0) v) f0 w = _
      rw [em0, add5_a]
    rw [this]
    exact cR_add hc1 hf0
  obtain ⟨⟨M3, k3⟩, ⟨c3, q3, hc3⟩, e3⟩ := lp_ex (f := fun (q : gMem × Int32) => bb_X12_split_116 q.1 a (nI p) S.2.1 S.2.2 (nI n) q.2) (fun j q => ∃ c, q = (bC 17 a (up1 st 6 c) M, nI (j + 1)) ∧ cR c (add5 (shN S.1 p v (j + 1)) f0 w) F) (n - 1) (fun j q hj ⟨c, hq, hc⟩ => by
    obtain ⟨f, hf, ef⟩ := n4 (j + 1) (by omega)
    subst hq
    refine ⟨_, step2 (j + 1) c f 0 (by omega) hf ef (if_neg (by omega)), _, rfl, ?_⟩
    have hm : memA (shN S.1 p v (j + 1)) p (j + 1) = f := by unfold memA; rw [f75 (j + 1) (j + 1) (by omega), ef, nI_clamp (by omega)]
    have : add5 (shN S.1 p v (j + 1 + 1)) f0 w = add5 (add5 (shN S.1 p v (j + 1)) f0 w) f (v + 0) := by
      show add5 (add5 (shN S.1 p v (j + 1)) (memA (shN S.1 p v (j + 1)) p (j + 1)) v) f0 w = _
      rw [hm, add5_c, Int32.add_zero]
    rw [this]
    exact cR_add hc hf) (n - 1) 0 (bC 17 a (up1 st 6 (up1 c1 f0 (c1 f0 + (v + w)))) M, nI 1) (by omega) ⟨_, rfl, hc2⟩
  rw [show n - 1 + 1 = n by omega] at q3 hc3
  cases q3
  have qn : nI n ≤ nI n := nI_le (Nat.le_refl _) (by omega)
  obtain ⟨p10, p11, p12⟩ := R2.2.2.2.2.2 p hp
  obtain ⟨st', hst'⟩ : ∃ st', st' = up2 (up2 (up2 (up1 st 6 c3) 10 p (st 10 p + S.2.1)) 11 p (st 11 p + S.2.2)) 12 p (st 12 p + (if S.2.2 ≤ 0 then 0 else 1)) := ⟨_, rfl⟩
  have last : bb_X12_split_116 (bC 17 a (up1 st 6 c3) M) a (nI p) S.2.1 S.2.2 (nI n) (nI n) = some (.inr ((), bC 17 a st' M)) := by
    rw [hst']
    unfold bb_X12_split_116 b_X12_split_209
    rw [if_pos qn, ck_t (q_T L), dr_s (q_R11 L), ck_t (q_T10 L), q_L10 L, ck_t i1, ck_t i1, bC_Ic (by omega) (by omega), up1_o (by omega), bC_Wc (by omega) (by omega)]
    simp only [lw_S]
    rw [dr_s (q_R12 L), ck_t (q_T11 L), q_L11 L, ck_t i1, ck_t i1, bC_Ic (by omega) (by omega), up2_ne (by omega), up1_o (by omega), bC_Wc (by omega) (by omega), dr_s (q_R13 L), ck_t (q_T12 L), q_L12 L, ck_t i1, bC_Ic (by omega) (by omega), up2_ne (by omega), up2_ne (by omega), up1_o (by omega)]
    by_cases c : S.2.2 ≤ 0
    · rw [if_pos c, if_pos c, dr_s (q_R13 L), ck_t (q_T12 L), q_L12 L, ck_t i1, bC_Wc (by omega) (by omega)]
      rfl
    · rw [if_neg c, if_neg c, dr_s (q_R13 L), ck_t (q_T12 L), q_L12 L, ck_t i1, bC_Wc (by omega) (by omega)]
      rfl
  have hrun : f_X12_split (bC 17 a st M) a (nI p) = some ((), bC 17 a st' M) := by
    have h2 : lp_X12_split_116 (bC 17 a (up1 st 6 c1) M) a (nI p) S.2.1 S.2.2 (nI n) (nI 0) = some ((), bC 17 a st' M) := by
      unfold lp_X12_split_116
      exact (lp_in first).trans (e3.trans (lp_out last))
    have h1 : bb_X12_split_21 (bC 17 a (up1 st 6 c1) M) a (nI p) S.2.1 S.2.2 (nI n) (nI n) = some (.inr ((), bC 17 a st' M)) := by
      unfold bb_X12_split_21
      rw [if_pos qn]
      exact congrArg oI h2
    unfold f_X12_split b_X12_split_0 lp_X12_split_21
    rw [ck_t (q_T L), dr_s (q_R18 L), ck_t (q_Tm L), dr_s (q_Rm L), ck_t (q_Tt L), dr_s (q_r13 L), ck_t (q_t9 L), q_l9 L, ck_t i1, q_Ic L (by omega) (by omega), b2, n3]
    exact e1.trans (lp_out h1)
  refine ⟨st', hrun, ?_⟩
  have so : ∀ d, d ≠ 6 → d ≠ 10 → d ≠ 11 → d ≠ 12 → st' d = st d := fun d h1 h2 h3 h4 => by
    funext k
    rw [hst', up2_ne (.inl h4), up2_ne (.inl h3), up2_ne (.inl h2), up1_o h1]
  have s6 : ∀ f, f < F → st' 6 f = splA A p n (34 + 2 * f) 5 := fun f hf => by
    rw [hst', up2_ne (by omega), up2_ne (by omega), up2_ne (by omega), up1_e, hc3 f hf]
    unfold splA
    rw [up2_ne (by omega), up2_ne (by omega), up2_ne (by omega), emA, ← hS, ← hv, show S.2.1 - v * nI n = w by rw [hw, hv]]
  have ao : ∀ d k, (∀ f, f < 8 → d ≠ 34 + 2 * f ∨ k ≠ 5) → (d ≠ 74 + 2 * p ∨ (k ≠ 5 ∧ k ≠ 6 ∧ k ≠ 7)) → splA A p n d k = A d k := fun d k h1 h2 => splA_o hP n1 h1 h2
  obtain ⟨r0, rF, rB, rE⟩ := R1
  obtain ⟨l1, z1, tk, wt, zz, pp⟩ := R2
  refine ⟨⟨?_, fun g k hg hk => ?_, fun g hg => ?_, fun f' hf' => ?_⟩, ⟨?_, fun i h1 h2 => ?_, fun g f' hg hf' => ?_, fun f' hf' => ?_, fun f' h1 h2 => ?_, fun p' hp' => ?_⟩⟩
  · rw [so 0 (by omega) (by omega) (by omega) (by omega), ao _ _ (fun f hf => by omega) (by omega), r0]
  · rw [so 1 (by omega) (by omega) (by omega) (by omega), ao _ _ (fun f hf => by omega) (by omega), rF g k hg hk]
  · rw [so 2 (by omega) (by omega) (by omega) (by omega), ao _ _ (fun f hf => by omega) (by omega), rB g hg]
  · obtain ⟨c1, c2, c3, c4, c5⟩ := rE f' hf'
    rw [so 4 (by omega) (by omega) (by omega) (by omega), so 5 (by omega) (by omega) (by omega) (by omega), so 9 (by omega) (by omega) (by omega) (by omega), s6 f' hf', ao (34 + 2 * f') 1 (fun f hf => by omega) (by omega), ao (34 + 2 * f') 4 (fun f hf => by omega) (by omega), ao (34 + 2 * f') 9 (fun f hf => by omega) (by omega)]
    exact ⟨c1, c2, rfl, c4, c5⟩
  · rw [so 0 (by omega) (by omega) (by omega) (by omega), ao _ _ (fun f hf => by omega) (by omega), l1]
  · rw [so 1 (by omega) (by omega) (by omega) (by omega), z1 i h1 h2]
  · rw [so 3 (by omega) (by omega) (by omega) (by omega), ao _ _ (fun f hf => by omega) (by omega), tk g f' hg hf']
  · rw [so 7 (by omega) (by omega) (by omega) (by omega), so 8 (by omega) (by omega) (by omega) (by omega), ao (34 + 2 * f') 6 (fun f hf => by omega) (by omega), ao (34 + 2 * f') 7 (fun f hf => by omega) (by omega)]
    exact wt f' hf'
  · rw [so 5 (by omega) (by omega) (by omega) (by omega), so 9 (by omega) (by omega) (by omega) (by omega)]
    exact zz f' h1 h2
  · by_cases c : p' = p
    · subst c
      have a5 : splA A p' n (74 + 2 * p') 5 = A (74 + 2 * p') 5 + S.2.1 := by
        unfold splA
        rw [up2_ne (by omega), up2_ne (by omega), up2_eq, ← hS]
      have a6 : splA A p' n (74 + 2 * p') 6 = A (74 + 2 * p') 6 + S.2.2 := by
        unfold splA
        rw [up2_ne (by omega), up2_eq, ← hS]
      have a7 : splA A p' n (74 + 2 * p') 7 = A (74 + 2 * p') 7 + (if S.2.2 ≤ 0 then 0 else 1) := by
        unfold splA
        rw [up2_eq, ← hS]
      rw [a5, a6, a7, hst', ← p10, ← p11, ← p12]
      refine ⟨?_, ?_, ?_⟩
      · rw [up2_ne (by omega), up2_ne (by omega), up2_eq]
      · rw [up2_ne (by omega), up2_eq]
      · rw [up2_eq]
    · rw [ao _ _ (fun f hf => by omega) (by omega), ao _ _ (fun f hf => by omega) (by omega), ao _ _ (fun f hf => by omega) (by omega), hst', up2_ne (by omega), up2_ne (by omega), up2_ne (by omega), up1_o (by omega), up2_ne (by omega), up2_ne (by omega), up2_ne (by omega), up1_o (by omega), up2_ne (by omega), up2_ne (by omega), up2_ne (by omega), up1_o (by omega)]
      exact pp p' hp'
/-- catches are stored -/
theorem RS_st {A st : Nat → Nat → Int32} {F G np n : Nat} (hF : F ≤ 8) (hn : n < F) (R : RS (stA A n) st F G np) : RS (stA A (n + 1)) (up2 st 5 n (st 5 n + st 6 n)) F G np := by
  obtain ⟨⟨r0, rF, rB, rE⟩, ⟨l1, z1, tk, wt, zz, pp⟩⟩ := R
  have ao : ∀ d k, (d ≠ 34 + 2 * n ∨ k ≠ 4) → stA A (n + 1) d k = stA A n d k := fun d k h => by rw [stA, up2_ne h]
  refine ⟨⟨?_, fun g k hg hk => ?_, fun g hg => ?_, fun f' hf' => ?_⟩, ⟨?_, fun i h1 h2 => ?_, fun g f' hg hf' => ?_, fun f' hf' => ?_, fun f' h1 h2 => ?_, fun p' hp' => ?_⟩⟩
  · rw [up2_ne (by omega), ao _ _ (by omega), r0]
  · rw [up2_ne (by omega), ao _ _ (by omega), rF g k hg hk]
  · rw [up2_ne (by omega), ao _ _ (by omega), rB g hg]
  · obtain ⟨c1, c2, c3, c4, c5⟩ := rE f' hf'
    rw [up2_ne (b := 4) (by omega)]
    rw [up2_ne (b := 6) (by omega), up2_ne (b := 9) (by omega), ao _ 1 (by omega), ao _ 5 (by omega), ao _ 9 (by omega)]
    refine ⟨c1, ?_, c3, c4, c5⟩
    by_cases c : f' = n
    · subst c
      rw [up2_eq, stA, up2_eq, c2, c3, stA_o f' (fun f hf => by omega), stA_o f' (fun f hf => by omega)]
    · rw [up2_ne (by omega), ao _ _ (by omega), c2]
  · rw [up2_ne (by omega), ao _ _ (by omega), l1]
  · rw [up2_ne (by omega), z1 i h1 h2]
  · rw [up2_ne (by omega), ao _ _ (by omega), tk g f' hg hf']
  · rw [up2_ne (by omega), up2_ne (by omega), ao _ _ (by omega), ao _ _ (by omega)]
    exact wt f' hf'
  · rw [up2_ne (by omega), up2_ne (by omega)]
    exact zz f' h1 h2
  · rw [up2_ne (by omega), up2_ne (by omega), up2_ne (by omega), ao _ _ (by omega), ao _ _ (by omega), ao _ _ (by omega)]
    exact pp p' hp'
/-- a ground has grown -/
theorem RS_gr {A st : Nat → Nat → Int32} {F G np n : Nat} {r : Nat → Int32} (hG : G ≤ 8) (hn : n < G) (R : RS (growA A n) st F G np) (h1 : ∀ k, k < 5 → r (5 * n + k) = gro (A (19 + 2 * n)) (k + 1)) (h2 : ∀ i, (i < 5 * n ∨ 5 * n + 5 ≤ i) → r i = st 1 i) : RS (growA A (n + 1)) (up1 st 1 r) F G np := by
  obtain ⟨⟨r0, rF, rB, rE⟩, ⟨l1, z1, tk, wt, zz, pp⟩⟩ := R
  have ao : ∀ d, d ≠ 19 + 2 * n → growA A (n + 1) d = growA A n d := fun d h => by rw [growA, up1_o h]
  have so : ∀ d, d ≠ 1 → up1 st 1 r d = st d := fun d h => up1_o h
  refine ⟨⟨?_, fun g k hg hk => ?_, fun g hg => ?_, fun f' hf' => ?_⟩, ⟨?_, fun i h3 h4 => ?_, fun g f' hg hf' => ?_, fun f' hf' => ?_, fun f' h3 h4 => ?_, fun p' hp' => ?_⟩⟩
  · rw [so 0 (by omega), ao _ (by omega), r0]
  · rw [up1_e]
    by_cases c : g = n
    · subst c
      rw [h1 k hk, growA, up1_e]
    · rw [h2 _ (by omega), ao _ (by omega), rF g k hg hk]
  · rw [so 2 (by omega), ao _ (by omega), rB g hg]
  · rw [so 4 (by omega), so 5 (by omega), so 6 (by omega), so 9 (by omega), ao _ (by omega)]
    exact rE f' hf'
  · rw [so 0 (by omega), ao _ (by omega), l1]
  · rw [up1_e, h2 i (by omega), z1 i h3 h4]
  · rw [so 3 (by omega), ao _ (by omega), tk g f' hg hf']
  · rw [so 7 (by omega), so 8 (by omega), ao _ (by omega)]
    exact wt f' hf'
  · rw [so 5 (by omega), so 9 (by omega)]
    exact zz f' h3 h4
  · rw [so 10 (by omega), so 11 (by omega), so 12 (by omega), ao _ (by omega)]
    exact pp p' hp'
/-- the tide and the number l -/
theorem RS_0 {A st : Nat → Nat → Int32} {F G np : Nat} {k : Nat} {v : Int32} (R : RS A st F G np) : RS (up2 A 0 k v) (up2 st 0 k v) F G np := by
  obtain ⟨⟨r0, rF, rB, rE⟩, ⟨l1, z1, tk, wt, zz, pp⟩⟩ := R
  have ao : ∀ d, d ≠ 0 → up2 A 0 k v d = A d := fun d h => funext fun j => up2_ne (.inl h)
  have so : ∀ d, d ≠ 0 → up2 st 0 k v d = st d := fun d h => funext fun j => up2_ne (.inl h)
  have e : ∀ j, st 0 j = A 0 j → up2 st 0 k v 0 j = up2 A 0 k v 0 j := fun j h => by
    by_cases c : j = k
    · subst c; rw [up2_eq, up2_eq]
    · rw [up2_ne (.inr c), up2_ne (.inr c), h]
  refine ⟨⟨e 0 r0, fun g k hg hk => ?_, fun g hg => ?_, fun f' hf' => ?_⟩, ⟨e 1 l1, fun i h3 h4 => ?_, fun g f' hg hf' => ?_, fun f' hf' => ?_, fun f' h3 h4 => ?_, fun p' hp' => ?_⟩⟩
  · rw [so 1 (by omega), ao _ (by omega)]; exact rF g k hg hk
  · rw [so 2 (by omega), ao _ (by omega)]; exact rB g hg
  · rw [so 4 (by omega), so 5 (by omega), so 6 (by omega), so 9 (by omega), ao _ (by omega)]; exact rE f' hf'
  · rw [so 1 (by omega)]; exact z1 i h3 h4
  · rw [so 3 (by omega), ao _ (by omega)]; exact tk g f' hg hf'
  · rw [so 7 (by omega), so 8 (by omega), ao _ (by omega)]; exact wt f' hf'
  · rw [so 5 (by omega), so 9 (by omega)]; exact zz f' h3 h4
  · rw [so 10 (by omega), so 11 (by omega), so 12 (by omega), ao _ (by omega)]; exact pp p' hp'
/-- no matter what stands in the rows that are of use for a moment alone -/
theorem RS_c {A st st' : Nat → Nat → Int32} {F G np : Nat} (R : RS A st F G np) (h : ∀ d, d < 13 → st' d = st d) : RS A st' F G np := by
  unfold RS RE RR
  rw [h 0 (by omega), h 1 (by omega), h 2 (by omega), h 3 (by omega), h 4 (by omega), h 5 (by omega), h 6 (by omega), h 7 (by omega), h 8 (by omega), h 9 (by omega), h 10 (by omega), h 11 (by omega), h 12 (by omega)]
  exact R
theorem RS_boats {A st : Nat → Nat → Int32} {F G np : Nat} {r : Nat → Int32} (hG : G ≤ 8) (R : RS A st F G np) (h : ∀ k, k < 8 → r k = 0) : RS (boat0 A G) (up1 st 2 r) F G np := by
  obtain ⟨⟨r0, rF, rB, rE⟩, ⟨l1, z1, tk, wt, zz, pp⟩⟩ := R
  have so : ∀ d, d ≠ 2 → up1 st 2 r d = st d := fun d h => up1_o h
  have ao : ∀ n d k, n ≤ 8 → ¬ (18 ≤ d ∧ d < 34 ∧ d % 2 = 0 ∧ k = 1) → boat0 A n d k = A d k := by
    intro n d k
    induction n with
    | zero => exact fun _ _ => rfl
    | succ n ih => intro hn h; rw [boat0, up2_ne (by omega)]; exact ih (by omega) h
  have ab : ∀ n g, n ≤ 8 → g < n → boat0 A n (18 + 2 * g) 1 = 0 := by
    intro n g
    induction n with
    | zero => exact fun _ h => absurd h (Nat.not_lt_zero g)
    | succ n ih =>
      intro hn h
      rw [boat0]
      by_cases c : g = n
      · subst c; exact up2_eq _ _ _ _
      · rw [up2_ne (by omega)]; exact ih (by omega) (by omega)
  refine ⟨⟨?_, fun g k hg hk => ?_, fun g hg => ?_, fun f' hf' => ?_⟩, ⟨?_, fun i h3 h4 => ?_, fun g f' hg hf' => ?_, fun f' hf' => ?_, fun f' h3 h4 => ?_, fun p' hp' => ?_⟩⟩
  · rw [so 0 (by omega), ao G _ _ hG (by omega), r0]
  · rw [so 1 (by omega), ao G _ _ hG (by omega), rF g k hg hk]
  · rw [up1_e, ab G g hG hg, h g (by omega)]
  · rw [so 4 (by omega), so 5 (by omega), so 6 (by omega), so 9 (by omega), ao G _ _ hG (by omega), ao G _ _ hG (by omega), ao G _ _ hG (by omega), ao G _ _ hG (by omega)]
    exact rE f' hf'
  · rw [so 0 (by omega), ao G _ _ hG (by omega), l1]
  · rw [so 1 (by omega), z1 i h3 h4]
  · rw [so 3 (by omega), ao G _ _ hG (by omega), tk g f' hg hf']
  · rw [so 7 (by omega), so 8 (by omega), ao G _ _ hG (by omega), ao G _ _ hG (by omega)]
    exact wt f' hf'
  · rw [so 5 (by omega), so 9 (by omega)]
    exact zz f' h3 h4
  · rw [so 10 (by omega), so 11 (by omega), so 12 (by omega), ao G _ _ hG (by omega), ao G _ _ hG (by omega), ao G _ _ hG (by omega)]
    exact pp p' hp'
/-- a tide of the reference is a tide of the class -/
theorem r_pass {m t a F G len np ng : Nat} {A st : Nat → Nat → Int32} {M : gMem} {pg : Nat → Nat} (L : LSt m t a M) (T : TR pg len A M t F G np ng) (W : WS A F G np ng) (D : WD A F G) (R : RS A st F G np) (hlen : len ≤ 400) : ∃ st', f_X12_pass (bC 17 a st M) a = some ((), bC 17 a st' M) ∧ RS (tideA pg len np ng F G A) st' F G np := by
  have hF : F ≤ 8 := W.2.2.2.1
  have hG : G ≤ 8 := W.2.1
  have hnp : np ≤ 6 := W.2.2.2.2.1.2.1
  have hng : ng ≤ 24 := W.2.2.2.2.2.1.2.1
  -- lots
  obtain ⟨s1, d1, d2, d3, d4⟩ := r_draw (st := st) L T.1.2.1 hF
  have el : st 0 1 = A 0 1 := R.2.1
  rw [el] at d2 d4
  have R1 : RS (up2 A 0 1 (lkA F (A 0 1))) s1 F G np := by
    refine RS_c (RS_0 (k := 1) (v := lkA F (A 0 1)) R) fun d hd => ?_
    funext k
    by_cases c : d = 0 ∧ k = 1
    · obtain ⟨rfl, rfl⟩ := c
      rw [up2_eq, d2]
    · rw [up2_ne (by omega), d3 d k (by omega) (by omega) (by omega)]
  obtain ⟨A1, hA1⟩ : ∃ A1, A1 = up2 A 0 1 (lkA F (A 0 1)) := ⟨_, rfl⟩
  rw [← hA1] at R1
  have T1 : eqT A A1 := by rw [hA1]; exact eqT_2 (by unfold told; omega)
  have D1 : WD A1 F G := by rw [hA1]; exact ⟨fun g hg => okG_c (fun s => up2_ne (by omega)) (D.1 g hg), fun f hf => okF_c (fun k _ => up2_ne (by omega)) (D.2 f hf)⟩
  -- boats
  obtain ⟨⟨M2, k2⟩, ⟨r2, q2, h2⟩, e2⟩ := lp_ex (f := fun (q : gMem × Int32) => bb_X12_pass_6 q.1 a q.2) (fun j q => ∃ r, q = (bC 17 a (up1 s1 2 r) M, nI j) ∧ ∀ k, k < j → r k = 0) 8 (fun j q hj ⟨r, hq, hr⟩ => by
    subst hq
    have q8 : ¬ (8 : Int32) ≤ nI j := fun z => by have := (nI_leI (a := 8) (by omega) (by omega)).mp z; omega
    have i2 : inb (nI j) 8 := (inbN (by omega)).mpr (by omega)
    refine ⟨(bC 17 a (up1 s1 2 (up1 r j 0)) M, nI (j + 1)), ?_, up1 r j 0, rfl, fun k hk => ?_⟩
    · show bb_X12_pass_6 (bC 17 a (up1 s1 2 r) M) a (nI j) = _
      unfold bb_X12_pass_6
      rw [if_neg q8, ck_t (q_T L), dr_s (q_R3 L), ck_t (q_T2 L), q_L2 L, ck_t i2, bC_Wc (by omega) (by omega), up2_up1s, nI_1]
      rfl
    · by_cases c : k = j
      · subst c; exact up1_e _ _ _
      · rw [up1_o c]; exact hr k (by omega)) 8 0 (bC 17 a (up1 s1 2 (s1 2)) M, nI 0) (by omega) ⟨s1 2, rfl, fun k hk => absurd hk (Nat.not_lt_zero k)⟩
  cases q2
  rw [up1_self] at e2
  have R2 := RS_boats hG R1 h2
  obtain ⟨T2, D2⟩ := boat0_W hF hG D1
  have T2 := eqT_t T1 T2
  obtain ⟨A2, hA2⟩ : ∃ A2, A2 = boat0 A1 G := ⟨_, rfl⟩
  rw [← hA2] at R2 T2 D2
  have W2 := WS_c T2 W
  have hlots : ∀ i, i < F → up1 s1 2 r2 13 i = nI (ltA F (A 0 1) i) := fun i hi => by rw [up1_o (by omega)]; exact d4 i hi
  -- the fleet
  obtain ⟨⟨M3, k3⟩, ⟨s3, q3, R3, -⟩, e3⟩ := lp_ex (f := fun (q : gMem × Int32) => bb_X12_pass_27 q.1 a q.2) (fun j q => ∃ s, q = (bC 17 a s M, nI j) ∧ RS (fleetA pg len np ng (ltA F (A 0 1)) A2 j) s F G np ∧ s 13 = up1 s1 2 r2 13) F (fun j q hj ⟨s, hq, hr, h13⟩ => by
    subst hq
    have q8 : ¬ nI F ≤ nI j := fun z => by have := (nI_leI (by omega) (by omega)).mp z; omega
    have i2 : inb (nI j) 8 := (inbN (by omega)).mpr (by omega)
    obtain ⟨T3, D3⟩ := fleetA_W (pg := pg) (len := len) (lf := ltA F (A 0 1)) W2 D2 j (fun i hi => ltA_lt (by omega) (by omega))
    obtain ⟨s', f1, f2, f3⟩ := r_fisher (f := ltA F (A 0 1) j) L (TR_T hG hF hnp hng (eqT_t T2 T3) T) (WS_c T3 W2) D3 hr hlen (ltA_lt (by omega) hj)
    refine ⟨(bC 17 a s' M, nI (j + 1)), ?_, s', rfl, f2, by rw [f3, h13]⟩
    show bb_X12_pass_27 (bC 17 a s M) a (nI j) = _
    unfold bb_X12_pass_27
    rw [ck_t (q_T L), dr_s (q_R18 L), ck_t (q_Tm L), dr_s (q_Rm L), ck_t (q_Tt L), q_I L, T.1.2.1, if_neg q8, dr_s (q_R14 L), ck_t (q_T13 L), q_L13 L, ck_t i2, bC_Ic (by omega) (by omega), h13, hlots j hj, f1, bd_S, nI_1]) F 0 (bC 17 a (up1 s1 2 r2) M, nI 0) (by omega) ⟨_, rfl, R2, rfl⟩
  cases q3
  obtain ⟨T3, D3⟩ := fleetA_W (pg := pg) (len := len) (lf := ltA F (A 0 1)) W2 D2 F (fun i hi => ltA_lt (by omega) (by omega))
  obtain ⟨A3, hA3⟩ : ∃ A3, A3 = fleetA pg len np ng (ltA F (A 0 1)) A2 F := ⟨_, rfl⟩
  rw [← hA3] at R3 T3 D3
  have T3 := eqT_t T2 T3
  have W3 := WS_c T3 W
  -- pacts
  obtain ⟨⟨M4, k4⟩, ⟨s4, q4, R4⟩, e4⟩ := lp_ex (f := fun (q : gMem × Int32) => bb_X12_pass_59 q.1 a q.2) (fun j q => ∃ s, q = (bC 17 a s M, nI j) ∧ RS (splitsA A3 j) s F G np) np (fun j q hj ⟨s, hq, hr⟩ => by
    subst hq
    have q8 : ¬ nI np ≤ nI j := fun z => by have := (nI_leI (by omega) (by omega)).mp z; omega
    have i2 : inb (nI j) 6 := (inbN (by omega)).mpr (by omega)
    obtain ⟨T4, D4⟩ := splitsA_W W3 D3 j (by omega)
    have W4 := WS_c T4 W3
    have TR4 := TR_T hG hF hnp hng (eqT_t T3 T4) T
    obtain ⟨b1, -, -, b4⟩ := TR4.2.2.2.2 j hj
    obtain ⟨n, n1, n2, n3, n4⟩ := W4.2.2.2.2.2.2.2 j hj
    have hb : bb_X12_pass_59 (bC 17 a s M) a (nI j) = (if splitsA A3 j (74 + 2 * j) 0 = (-1 : Int32) then bd (f_X12_split (bC 17 a s M) a (nI j)) fun _ M40 => b_X12_pass_94 M40 a (nI j) else b_X12_pass_94 (bC 17 a s M) a (nI j)) := by
      unfold bb_X12_pass_59
      rw [ck_t (q_T L), dr_s (q_R18 L), ck_t (q_Tm L), dr_s (q_Rm L), ck_t (q_Tt L), q_I L, T.1.2.2.2, if_neg q8, dr_s (q_r12 L), ck_t (q_t8 L), q_l8 L, ck_t i2, q_Ic L (by omega) (by omega), b1]
    rcases b4 with h | ⟨⟨g, hg, h⟩, -⟩
    · have c : ¬ 0 ≤ splitsA A3 j (74 + 2 * j) 0 := by rw [h]; decide
      obtain ⟨s', f1, f2⟩ := r_split L TR4 W4 hr hj n1 n2 n3 n4
      refine ⟨(bC 17 a s' M, nI (j + 1)), ?_, s', rfl, ?_⟩
      · show bb_X12_pass_59 (bC 17 a s M) a (nI j) = _
        rw [hb, if_pos h, f1, bd_S]
        unfold b_X12_pass_94
        rw [nI_1]
      · rw [splitsA, if_neg c, n3, nI_clamp (by omega)]
        exact f2
    · have c : 0 ≤ splitsA A3 j (74 + 2 * j) 0 := by rw [h]; exact nI_pos' (by omega)
      refine ⟨(bC 17 a s M, nI (j + 1)), ?_, s, rfl, ?_⟩
      · show bb_X12_pass_59 (bC 17 a s M) a (nI j) = _
        rw [hb, h, if_neg (nI_nm1 (by omega))]
        unfold b_X12_pass_94
        rw [nI_1]
      · rw [splitsA, if_pos c]
        exact hr) np 0 (bC 17 a s3 M, nI 0) (by omega) ⟨_, rfl, R3⟩
  cases q4
  obtain ⟨A4, hA4⟩ : ∃ A4, A4 = splitsA A3 np := ⟨_, rfl⟩
  rw [← hA4] at R4
  -- stores
  obtain ⟨⟨M5, k5⟩, ⟨s5, q5, R5⟩, e5⟩ := lp_ex (f := fun (q : gMem × Int32) => bb_X12_pass_102 q.1 a q.2) (fun j q => ∃ s, q = (bC 17 a s M, nI j) ∧ RS (stA A4 j) s F G np) F (fun j q hj ⟨s, hq, hr⟩ => by
    subst hq
    have q8 : ¬ nI F ≤ nI j := fun z => by have := (nI_leI (by omega) (by omega)).mp z; omega
    have i2 : inb (nI j) 8 := (inbN (by omega)).mpr (by omega)
    refine ⟨(bC 17 a (up2 s 5 j (s 5 j + s 6 j)) M, nI (j + 1)), ?_, _, rfl, RS_st hF hj hr⟩
    show bb_X12_pass_102 (bC 17 a s M) a (nI j) = _
    unfold bb_X12_pass_102
    rw [ck_t (q_T L), dr_s (q_R18 L), ck_t (q_Tm L), dr_s (q_Rm L), ck_t (q_Tt L), q_I L, T.1.2.1, if_neg q8, dr_s (q_R6 L), ck_t (q_T5 L), q_L5 L, ck_t i2, dr_s (q_R7 L), ck_t (q_T6 L), q_L6 L, ck_t i2, ck_t i2, bC_Ic (by omega) (by omega), bC_Ic (by omega) (by omega), bC_Wc (by omega) (by omega), nI_1]
    rfl) F 0 (bC 17 a s4 M, nI 0) (by omega) ⟨_, rfl, R4⟩
  cases q5
  obtain ⟨A5, hA5⟩ : ∃ A5, A5 = stA A4 F := ⟨_, rfl⟩
  rw [← hA5] at R5
  -- shoals
  obtain ⟨⟨M6, k6⟩, ⟨s6, q6, R6⟩, e6⟩ := lp_ex (f := fun (q : gMem × Int32) => bb_X12_pass_139 q.1 a q.2) (fun j q => ∃ s, q = (bC 17 a s M, nI j) ∧ RS (growA A5 j) s F G np) G (fun j q hj ⟨s, hq, hr⟩ => by
    subst hq
    have q8 : ¬ nI G ≤ nI j := fun z => by have := (nI_leI (by omega) (by omega)).mp z; omega
    obtain ⟨r, f1, f2, f3⟩ := r_grow (st := s) (f := A5 (19 + 2 * j)) (g := j) L (by omega) (fun k hk => by
      rw [hr.1.2.1 j k hj hk, growA_o j (fun g hg => by omega)])
    refine ⟨(bC 17 a (up1 s 1 r) M, nI (j + 1)), ?_, _, rfl, RS_gr hG hj hr f2 f3⟩
    show bb_X12_pass_139 (bC 17 a s M) a (nI j) = _
    unfold bb_X12_pass_139
    rw [ck_t (q_T L), dr_s (q_R18 L), ck_t (q_Tm L), dr_s (q_Rm L), ck_t (q_Tt L), q_I L, T.1.1, if_neg q8, f1, bd_S, nI_1]) G 0 (bC 17 a s5 M, nI 0) (by omega) ⟨_, rfl, R5⟩
  cases q6
  have R7 := RS_0 (k := 0) (v := growA A5 G 0 0 + 1) R6
  have e00 : growA A5 G 0 0 = A 0 0 := by
    rw [growA_o G (fun g hg => by omega), hA5, stA_o F (fun f hf => by omega), hA4]
    have s0 : ∀ n, n ≤ np → splitsA A3 n 0 0 = A3 0 0 := by
      intro n
      induction n with
      | zero => exact fun _ => rfl
      | succ n ih =>
        intro hn
        obtain ⟨k, k1, k2, k3, k4⟩ := WS_p (WS_c (splitsA_W W3 D3 n (by omega)).1 W3) (show n < np by omega)
        rw [splitsA]
        by_cases c : 0 ≤ splitsA A3 n (74 + 2 * n) 0
        · rw [if_pos c]; exact ih (by omega)
        · rw [if_neg c, k3, nI_clamp (by omega), splA_o k4 k1 (fun f hf => by omega) (by omega)]; exact ih (by omega)
    rw [s0 np (Nat.le_refl _), hA3]
    have f0 : ∀ n, n ≤ F → fleetA pg len np ng (ltA F (A 0 1)) A2 n 0 0 = A2 0 0 := by
      intro n
      induction n with
      | zero => exact fun _ => rfl
      | succ n ih =>
        intro hn
        obtain ⟨t, d⟩ := fleetA_W (pg := pg) (len := len) (lf := ltA F (A 0 1)) W2 D2 n (fun i hi => ltA_lt (by omega) (by omega))
        have hl := ltA_lt (n := F) (i := n) (x := A 0 1) (by omega) (by omega)
        rw [← ih (by omega), fleetA, goA]
        rcases fgo_v (pg := pg) (len := len) (f := ltA F (A 0 1) n) (WS_c t W2) ng 0 (by omega) with h | ⟨g, hg, h⟩
        · rw [if_pos h, homeA_o (by omega)]
        · have q : ¬ nI g = -1 := nI_nm1 (by omega)
          rw [h, if_neg q, nI_clamp (by omega), sailA_o (by omega) (by omega) (by omega) (by omega)]
    rw [f0 F (Nat.le_refl _), hA2, boat0_o (by omega), hA1, up2_ne (by omega)]
  refine ⟨up2 s6 0 0 (s6 0 0 + 1), ?_, ?_⟩
  · have x6 : bb_X12_pass_139 (bC 17 a s6 M) a (nI G) = some (.inr ((), bC 17 a (up2 s6 0 0 (s6 0 0 + 1)) M)) := by
      have qn : nI G ≤ nI G := nI_le (Nat.le_refl _) (by omega)
      unfold bb_X12_pass_139
      rw [ck_t (q_T L), dr_s (q_R18 L), ck_t (q_Tm L), dr_s (q_Rm L), ck_t (q_Tt L), q_I L, T.1.1, if_pos qn, bC_I0 (by omega), bC_W0 (by omega)]
      rfl
    have x5 : bb_X12_pass_102 (bC 17 a s5 M) a (nI F) = oI (lp_X12_pass_139 (bC 17 a s5 M) a (nI 0)) := by
      have qn : nI F ≤ nI F := nI_le (Nat.le_refl _) (by omega)
      unfold bb_X12_pass_102
      rw [ck_t (q_T L), dr_s (q_R18 L), ck_t (q_Tm L), dr_s (q_Rm L), ck_t (q_Tt L), q_I L, T.1.2.1, if_pos qn]
      rfl
    have x4 : bb_X12_pass_59 (bC 17 a s4 M) a (nI np) = oI (lp_X12_pass_102 (bC 17 a s4 M) a (nI 0)) := by
      have qn : nI np ≤ nI np := nI_le (Nat.le_refl _) (by omega)
      unfold bb_X12_pass_59
      rw [ck_t (q_T L), dr_s (q_R18 L), ck_t (q_Tm L), dr_s (q_Rm L), ck_t (q_Tt L), q_I L, T.1.2.2.2, if_pos qn]
      rfl
    have x3 : bb_X12_pass_27 (bC 17 a s3 M) a (nI F) = oI (lp_X12_pass_59 (bC 17 a s3 M) a (nI 0)) := by
      have qn : nI F ≤ nI F := nI_le (Nat.le_refl _) (by omega)
      unfold bb_X12_pass_27
      rw [ck_t (q_T L), dr_s (q_R18 L), ck_t (q_Tm L), dr_s (q_Rm L), ck_t (q_Tt L), q_I L, T.1.2.1, if_pos qn]
      rfl
    have x2 : bb_X12_pass_6 (bC 17 a (up1 s1 2 r2) M) a (nI 8) = oI (lp_X12_pass_27 (bC 17 a (up1 s1 2 r2) M) a (nI 0)) := by
      have qn : (8 : Int32) ≤ nI 8 := by decide
      unfold bb_X12_pass_6
      rw [if_pos qn]
      rfl
    unfold f_X12_pass b_X12_pass_0
    rw [ck_t (q_T L), d1, bd_S]
    have y6 : lp_X12_pass_139 (bC 17 a s5 M) a (nI 0) = some ((), bC 17 a (up2 s6 0 0 (s6 0 0 + 1)) M) := e6.trans (lp_out x6)
    have y5 : lp_X12_pass_102 (bC 17 a s4 M) a (nI 0) = lp_X12_pass_139 (bC 17 a s5 M) a (nI 0) := e5.trans (lp_oI x5)
    have y4 : lp_X12_pass_59 (bC 17 a s3 M) a (nI 0) = lp_X12_pass_102 (bC 17 a s4 M) a (nI 0) := e4.trans (lp_oI x4)
    have y3 : lp_X12_pass_27 (bC 17 a (up1 s1 2 r2) M) a (nI 0) = lp_X12_pass_59 (bC 17 a s3 M) a (nI 0) := e3.trans (lp_oI x3)
    have y2 : lp_X12_pass_6 (bC 17 a s1 M) a (nI 0) = lp_X12_pass_27 (bC 17 a (up1 s1 2 r2) M) a (nI 0) := e2.trans (lp_oI x2)
    exact y2.trans (y3.trans (y4.trans (y5.trans y6)))
  · have : s6 0 0 = growA A5 G 0 0 := R6.1.1
    rw [this]
    rw [e00] at R7 ⊢
    have et : tideA pg len np ng F G A = up2 (growA A5 G) 0 0 (A 0 0 + 1) := by
      unfold tideA tideP
      rw [hA5, hA4, hA3, hA2, hA1]
    rw [et]
    exact R7
