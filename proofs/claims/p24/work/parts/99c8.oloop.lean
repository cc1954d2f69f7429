/-! ## Pure: all goes -/
/-- what is known of the own rows of the goes -/
def GOt (x : Nat) (l : List (Nat × Nat × Nat × Nat × Nat × Nat × Nat)) (M : gMem) : Prop := ∀ j (h : j < l.length), ∃ w, mR M (x + 19) j = some w ∧ OW x w 7 M ∧ mI M w 2 = nI (l[j]'h).2.2.1
theorem OW_o {x w n N : Nat} {E : Nat → Nat → Prop} {M M' : gMem} (h : OW x w n M) (F : FRo N E M M') (hN : w < N) : OW x w n M' ∧ mI M' w = mI M w := by
  obtain ⟨h1, h2, h3, h4⟩ := h
  obtain ⟨z1, z2, z3⟩ := F.1 w hN
  exact ⟨⟨z1.trans h1, z2.trans h2, h3, Nat.lt_of_lt_of_le h4 F.2⟩, (z3 (by rw [h1]; decide) (by rw [h1]; decide)).1⟩
theorem GOt_o {x : Nat} {E : Nat → Nat → Prop} {l : List (Nat × Nat × Nat × Nat × Nat × Nat × Nat)} {M M' : gMem} (h : GOt x l M) (F : FRo (mN M) E M M') (ht : mT M (x + 19) = 28) (hx : x + 52 ≤ mN M) (hE : ∀ j, j < l.length → ¬ E (x + 19) j) : GOt x l M' := fun j hj => by
  obtain ⟨w, w1, w2, w3⟩ := h j hj
  obtain ⟨O, i⟩ := OW_o w2 F w2.2.2.2
  obtain ⟨-, -, z3⟩ := F.1 (x + 19) (by omega)
  exact ⟨w, ((z3 (by rw [ht]; decide) (by rw [ht]; decide)).2 j (hE j hj)).trans w1, O, by rw [i]; exact w3⟩
set_option maxRecDepth 100000 in
theorem o_loop {Z : Nat → Nat} {a x c kc kn n F G B : Nat} {L : List Nat} {M : gMem} (S : BS a x c L M) (hZ : ZHy Z B) (hx : B ≤ x) (hG : mI M x 0 = nI G) (hF : mI M x 1 = nI F) (h5 : mI M x 5 = nI n) (hn : n ≤ 8) (hG1 : 1 ≤ G ∧ G ≤ 4) (hF1 : 1 ≤ F ∧ F ≤ 6) (hc : c + 66 * n ≤ 1199) (hq : kc + 328 ≤ 800 ∧ kn + 538424 ≤ 1200000) : ∃ M' kc' kn' l k, l.length = n ∧ (∀ y, y ∈ l → oOk F G y) ∧ BS a x (c + 66 * n) (L ++ oTs 0 l) M' ∧ GOt x l M' ∧ k < 4 ∧ mI M' x 8 = nI k ∧ (∀ j, j ≠ 8 → mI M' x j = mI M x j) ∧ mN M ≤ mN M' ∧ kc' ≤ kc + 41 * n ∧ kn' ≤ kn + 67303 * n ∧ lp_L_shore_451 Z M kc kn (some a) (some x) (nI 0) = lp_L_shore_657 Z M' kc' kn' (some a) (some x) (nI 0) := by
  obtain ⟨q, ⟨M', kc', kn', l, rfl, e1, e2, e3, e4, eG, eN, e5, e6⟩, hq⟩ := lp_ex (f := fun (q : gMem × Nat × Nat × Int32) => bb_L_shore_451 Z q.1 q.2.1 q.2.2.1 (some a) (some x) q.2.2.2)
    (fun j q => ∃ M' kc' kn' l, q = (M', kc', kn', nI j) ∧ l.length = j ∧ (∀ y, y ∈ l → oOk F G y) ∧ BS a x (c + 66 * j) (L ++ oTs 0 l) M' ∧ mI M' x = mI M x ∧ GOt x l M' ∧ mN M ≤ mN M' ∧ kc' ≤ kc + 41 * j ∧ kn' ≤ kn + 67303 * j) n (fun j q hj hq => by
      obtain ⟨M', kc', kn', l, rfl, e1, e2, e3, e4, eG, eN, e5, e6⟩ := hq
      obtain ⟨M2, kc2, kn2, z, w, f1, f2, f3, f4, fF, fm, fO, fi, f5, f6⟩ := o_step (Z := Z) (kc := kc') (kn := kn') (k := j) e3 hZ hx (by rw [e4]; exact hG) (by rw [e4]; exact hF) (by rw [e4]; exact h5) hn hj hG1 hF1 (by omega) ⟨by omega, by omega⟩
      refine ⟨_, f1, M2, kc2, kn2, l ++ [z], rfl, by simp [e1], fun w hw => ?_, by rw [oTs_app, Nat.zero_add, e1, ← List.append_assoc, show c + 66 * (j + 1) = c + 66 * j + 66 by omega]; exact f3, f4.trans e4, ?_, Nat.le_trans eN fF.2, by omega, by rw [Nat.mul_succ]; exact Nat.le_trans f6 (by rw [← Nat.add_assoc]; exact Nat.add_le_add_right e6 _)⟩
      · rcases List.mem_append.mp hw with hw | hw
        · exact e2 w hw
        · rw [List.mem_singleton.mp hw]; exact f2
      · have old := GOt_o eG fF e3.2.2.2.2.2.2.2.1.1 e3.2.2.2.1 (fun i hi z => by have := z.2; omega)
        intro i hi
        by_cases c1 : i < l.length
        · obtain ⟨w1, r1, r2, r3⟩ := old i c1
          exact ⟨w1, r1, r2, by rw [List.getElem_append_left c1]; exact r3⟩
        · have hi2 : i < l.length + 1 := by simpa using hi
          have ei : i = j := by omega
          subst ei
          refine ⟨w, fm, fO, ?_⟩
          rw [List.getElem_append_right (by omega)]
          simpa using fi) n 0 (M, kc, kn, nI 0) (by omega) ⟨M, kc, kn, [], rfl, rfl, fun w hw => absurd hw List.not_mem_nil, by rw [show c + 66 * 0 = c from rfl, show L ++ oTs 0 [] = L from List.append_nil L]; exact S, rfl, fun j hj => absurd hj (Nat.not_lt_zero _), Nat.le_refl _, by omega, by omega⟩
  obtain ⟨cl1, cl2⟩ := l_below (M := M') (v := clZ Z 11) (n := 4) (by decide) (by decide)
  have h19 : x ≠ x + 19 := by omega
  refine ⟨wI M' x 8 (nI (blw (clZ Z 11) 4)), kc' + 0 + 0, kn' + 0 + 0, l, blw (clZ Z 11) 4, e1, e2, BS_W e3 (by rw [e3.2.2.1]; decide) (by rw [e3.2.2.1]; decide), fun j hj => ?_, cl2, up2_eq _ _ _ _, fun j hj => (up2_ne (.inr hj)).trans (by rw [e4]), eN, by omega, by omega, ?_⟩
  · obtain ⟨w, w1, w2, w3⟩ := eG j hj
    refine ⟨w, w1, w2, ?_⟩
    rw [← w3]
    exact up2_ne (.inl (by have := w2.2.2.1; omega))
  · unfold lp_L_shore_451
    rw [hq]
    refine lp_oI ?_
    show bb_L_shore_451 Z M' kc' kn' (some a) (some x) (nI n) = _
    unfold bb_L_shore_451
    rw [dr_S, ck_t e3.2.2.1, e4, h5, if_pos ((nI_leI (by omega) (by omega)).mpr (Nat.le_refl _)), ck_t ⟨by omega, by omega⟩, show (11 : Int32) = nI 11 from rfl, l_cell (by decide) hZ.1, bd_S, ck_t ⟨by omega, by omega⟩, show (4 : Int32) = nI 4 from rfl, cl1, bd_S, ck_t e3.2.2.1, lw_S]
    rfl
