/-! ## Pure: all of the shore by hand -/
/-- what is known of the rows of members -/
def MBt (x F : Nat) (l : List (Option Nat × Nat × Nat × Nat × Nat × Nat)) (M : gMem) : Prop := ∀ j (h : j < l.length), ∃ w, mR M (x + 51) j = some w ∧ OW x w (l[j]'h).2.2.1 M ∧ ∀ i, i < (l[j]'h).2.2.1 → mI M w i = nI (((l[j]'h).2.1 + i) % F)
theorem MBt_o {x F : Nat} {E : Nat → Nat → Prop} {l : List (Option Nat × Nat × Nat × Nat × Nat × Nat)} {M M' : gMem} (h : MBt x F l M) (FF : FRo (mN M) E M M') (ht : mT M (x + 51) = 28) (hx : x + 52 ≤ mN M) (hE : ∀ j, j < l.length → ¬ E (x + 51) j) : MBt x F l M' := fun j hj => by
  obtain ⟨w, w1, w2, w3⟩ := h j hj
  obtain ⟨O, i⟩ := OW_o w2 FF w2.2.2.2
  obtain ⟨-, -, z3⟩ := FF.1 (x + 51) (by omega)
  exact ⟨w, ((z3 (by rw [ht]; decide) (by rw [ht]; decide)).2 j (hE j hj)).trans w1, O, fun k hk => by rw [i]; exact w3 k hk⟩
set_option maxRecDepth 100000 in
theorem p_loop {Z : Nat → Nat} {a x c kc kn n F G B : Nat} {ol : List (Nat × Nat × Nat × Nat × Nat × Nat × Nat)} {L : List Nat} {M : gMem} (S : BS a x c L M) (hZ : ZHy Z B) (hx : B ≤ x) (hG : mI M x 0 = nI G) (hF : mI M x 1 = nI F) (h8 : mI M x 8 = nI n) (hn : n < 4) (hG1 : 1 ≤ G ∧ G ≤ 4) (hF1 : 1 ≤ F ∧ F ≤ 6) (hc : c + 72 * n ≤ 1199) (hq : kc + 111 ≤ 800 ∧ kn + 230508 ≤ 1200000) (hO : GOt x ol M) : ∃ M' l, l.length = n ∧ (∀ y, y ∈ l → pOk F G y) ∧ BS a x (c + 72 * n) (L ++ pTs F 0 l) M' ∧ GOt x ol M' ∧ MBt x F l M' ∧ mI M' x = mI M x ∧ lp_L_shore_657 Z M kc kn (some a) (some x) (nI 0) = some (some x, M') := by
  obtain ⟨q, ⟨M', kc', kn', l, rfl, e1, e2, e3, e4, eG, eP, e5, e6⟩, hq⟩ := lp_ex (f := fun (q : gMem × Nat × Nat × Int32) => bb_L_shore_657 Z q.1 q.2.1 q.2.2.1 (some a) (some x) q.2.2.2)
    (fun j q => ∃ M' kc' kn' l, q = (M', kc', kn', nI j) ∧ l.length = j ∧ (∀ y, y ∈ l → pOk F G y) ∧ BS a x (c + 72 * j) (L ++ pTs F 0 l) M' ∧ mI M' x = mI M x ∧ GOt x ol M' ∧ MBt x F l M' ∧ kc' ≤ kc + 37 * j ∧ kn' ≤ kn + 76836 * j) n (fun j q hj hq => by
      obtain ⟨M', kc', kn', l, rfl, e1, e2, e3, e4, eG, eP, e5, e6⟩ := hq
      obtain ⟨M2, kc2, kn2, z, w, f1, f2, f3, f4, fF, fm, fO, fi, f5, f6⟩ := p_step (Z := Z) (kc := kc') (kn := kn') (p := j) e3 hZ hx (by rw [e4]; exact hG) (by rw [e4]; exact hF) (by rw [e4]; exact h8) hn hj hG1 hF1 (by omega) ⟨by omega, by omega⟩
      refine ⟨_, f1, M2, kc2, kn2, l ++ [z], rfl, by simp [e1], fun w hw => ?_, by rw [pTs_app, Nat.zero_add, e1, ← List.append_assoc, show c + 72 * (j + 1) = c + 72 * j + 72 by omega]; exact f3, f4.trans e4, GOt_o eG fF e3.2.2.2.2.2.2.2.1.1 e3.2.2.2.1 (fun i hi z => by have := z.1; omega), ?_, by omega, by rw [Nat.mul_succ]; exact Nat.le_trans f6 (by rw [← Nat.add_assoc]; exact Nat.add_le_add_right e6 _)⟩
      · rcases List.mem_append.mp hw with hw | hw
        · exact e2 w hw
        · rw [List.mem_singleton.mp hw]; exact f2
      · have old := MBt_o eP fF e3.2.2.2.2.2.2.2.2.2.1 e3.2.2.2.1 (fun i hi z => by have := z.2; omega)
        intro i hi
        by_cases c1 : i < l.length
        · obtain ⟨w1, r1, r2, r3⟩ := old i c1
          exact ⟨w1, r1, by rw [List.getElem_append_left c1]; exact r2, by rw [List.getElem_append_left c1]; exact r3⟩
        · have hi2 : i < l.length + 1 := by simpa using hi
          have ei : i = j := by omega
          subst ei
          have eg : (l ++ [z])[i]'hi = z := by rw [List.getElem_append_right (by omega)]; simp
          exact ⟨w, fm, by rw [eg]; exact fO, by rw [eg]; exact fi⟩) n 0 (M, kc, kn, nI 0) (by omega) ⟨M, kc, kn, [], rfl, rfl, fun w hw => absurd hw List.not_mem_nil, by rw [show c + 72 * 0 = c from rfl, show L ++ pTs F 0 [] = L from List.append_nil L]; exact S, rfl, hO, fun j hj => absurd hj (Nat.not_lt_zero _), by omega, by omega⟩
  refine ⟨M', l, e1, e2, e3, eG, eP, e4, ?_⟩
  unfold lp_L_shore_657
  rw [hq]
  refine lp_oI ?_
  show bb_L_shore_657 Z M' kc' kn' (some a) (some x) (nI n) = _
  unfold bb_L_shore_657
  rw [dr_S, ck_t e3.2.2.1, e4, h8, if_pos ((nI_leI (by omega) (by omega)).mpr (Nat.le_refl _)), ck_t ⟨by omega, by omega⟩]
set_option maxRecDepth 100000 in
theorem shore_f {Z : Nat → Nat} {a B : Nat} {M : gMem} (hZ : ZHy Z B) (hB : B ≤ mN M) (S : ∃ v, SBv a v [] M) : ∃ M' gl fl ol pl, f_L_shore Z M (some a) = some (some (mN M), M') ∧ (1 ≤ gl.length ∧ gl.length ≤ 4) ∧ (1 ≤ fl.length ∧ fl.length ≤ 6) ∧ ol.length ≤ 8 ∧ pl.length < 4 ∧ (∀ y, y ∈ gl → gOk y) ∧ (∀ y, y ∈ fl → fOk y) ∧ (∀ y, y ∈ ol → oOk fl.length gl.length y) ∧ (∀ y, y ∈ pl → pOk fl.length gl.length y) ∧
    BS a (mN M) 1096 (gTs 0 gl ++ fTs 0 fl ++ oTs 0 ol ++ pTs fl.length 0 pl) M' ∧ GOt (mN M) ol M' ∧ MBt (mN M) fl.length pl M' ∧ mI M' (mN M) 5 = nI ol.length := by
  obtain ⟨v, S⟩ := S
  unfold f_L_shore b_L_shore_0
  obtain ⟨x, ex⟩ : ∃ x, x = mN M := ⟨_, rfl⟩
  rw [← ex] at hB ⊢
  rw [ck_t ⟨by decide, by decide⟩, lw_S, ck_t ⟨by decide, by decide⟩]
  have t1 : mT (nW M 11 0) x = 11 := by rw [ex]; exact up1_e _ _ _
  have i1 : mI (nW M 11 0) x = fun _ => 0 := by rw [ex]; exact up1_e _ _ _
  have k1 : ∀ c, c < x → SM5 M (nW M 11 0) c := fun c hc => SM5_n (by omega)
  have n1 : mN (nW M 11 0) = x + 1 := by rw [ex]; rfl
  generalize nW M 11 0 = M1 at t1 i1 k1 n1
  obtain ⟨M2, e2, s2, n2, k2, i2⟩ := X12_f t1 n1
  rw [e2, bd_S, ck_t ⟨by decide, by decide⟩, show (0 : Int32) = nI 0 from rfl, l_cell (by decide) hZ.1, bd_S, ck_t ⟨by decide, by decide⟩]
  obtain ⟨cl1, cl2⟩ := l_below (M := M2) (v := clZ Z 0) (n := 4) (by decide) (by decide)
  rw [show (4 : Int32) = nI 4 from rfl, cl1, bd_S, ck_t s2.1, lw_S, show (1 : Int32) + nI (blw (clZ Z 0) 4) = nI (1 + blw (clZ Z 0) 4) from nI_add 1 _]
  obtain ⟨G, hG⟩ : ∃ G, G = 1 + blw (clZ Z 0) 4 := ⟨_, rfl⟩
  rw [← hG]
  have S2 : BS a x 0 [] M2 := by
    have z : ∀ c, c < x → SM5 M M2 c := fun c hc => SM5_t (k1 c hc) (k2 c hc)
    obtain ⟨⟨t1, r1, c1, n1⟩, ⟨t2, l1, l2⟩, ⟨o1, o2⟩, b1, b2⟩ := S
    obtain ⟨a1, a2, a3, a4, -⟩ := z a (by omega)
    obtain ⟨v1, v2, v3, v4, -⟩ := z v (by omega)
    exact ⟨⟨v, ⟨a1.trans t1, by rw [a4]; exact r1, by rw [a3]; exact c1, by rw [a3]; exact n1⟩, ⟨v1.trans t2, by rw [v2]; exact l1, by rw [v2]; exact l2⟩, ⟨o1, by omega⟩, fun i hi => by rw [v3]; exact b1 i hi, fun i hi => by rw [v2] at hi; rw [v3]; exact b2 i hi⟩, Nat.le_refl _, s2⟩
  have S3 : BS a x 0 [] (wI M2 x 0 (nI G)) := BS_W S2 (by rw [s2.1]; decide) (by rw [s2.1]; decide)
  have g3 : mI (wI M2 x 0 (nI G)) x 0 = nI G := up2_eq _ _ _ _
  generalize wI M2 x 0 (nI G) = M3 at S3 g3
  obtain ⟨M4, kc4, kn4, gl, F, p1, p2, p3, p4, p5, p6, p7, p8, p9⟩ := g_loop (Z := Z) (kc := 0 + 1 + 74 + 0 + 0) (kn := 0 + 20 + 476 + 0 + 0) (n := G) S3 hZ.1 g3 (by omega) (by decide) ⟨by decide, by decide⟩
  obtain ⟨M5, kc5, kn5, fl, K, q1, q2, q3, q4, q5, q6, q7, q8, q9⟩ := f_loop (Z := Z) (kc := kc4) (kn := kn4) (n := F) p3 hZ.1 p5 p4.2 (by omega) ⟨by omega, by omega⟩
  obtain ⟨M6, kc6, kn6, ol, P, r1, r2, r3, r4, r5, r6, r7, -, r8, r9, r10⟩ := o_loop (Z := Z) (kc := kc5) (kn := kn5) (n := K) (F := F) (G := G) q3 hZ (by omega) (by rw [q6 0 (by decide), p6 0 (by decide)]; exact g3) (by rw [q6 1 (by decide)]; exact p5) q5 (by omega) ⟨by omega, by omega⟩ p4 (by omega) ⟨by omega, by omega⟩
  obtain ⟨M7, pl, s1, s2', s3, s4, s5, s6, s7⟩ := p_loop (Z := Z) (kc := kc6) (kn := kn6) (n := P) (F := F) (G := G) (ol := ol) r3 hZ (by omega) (by rw [r7 0 (by decide), q6 0 (by decide), p6 0 (by decide)]; exact g3) (by rw [r7 1 (by decide), q6 1 (by decide)]; exact p5) r6 r5 ⟨by omega, by omega⟩ p4 (by omega) ⟨by omega, by omega⟩ r4
  refine ⟨M7, gl, fl, ol, pl, ?_, ⟨by omega, by omega⟩, ⟨by omega, by omega⟩, by omega, by omega, p2, q2, by rw [q1, p1]; exact r2, by rw [q1, p1]; exact s2', ?_, s4, by rw [q1]; exact s5, by rw [s6, r7 5 (by decide), r1]; exact q5⟩
  · rw [← s7, ← r10, ← q9, ← p9]
  · rw [q1]
    exact ⟨s3.1, by have := s3.2.1; simp only [List.nil_append] at this ⊢; omega, s3.2.2⟩
