/-! ## Pure: all grounds, all fishers -/
set_option maxRecDepth 20000 in
theorem f_322 {Z : Nat → Nat} {a x c f kc kn q w m : Nat} {L : List Nat} {M : gMem} {v y : Int32} (S : BS a x c L M) (O : OW x w 4 M) (h0 : mI M w 0 = nI m) (hm : 1 ≤ m ∧ m ≤ 5) (hf : f < 6) (hq : q = 99 ∨ q = 25) (hc : c + 32 ≤ 1199) (hk : kc + 9 ≤ 800 ∧ kn + 21600 ≤ 1200000) : PFr a x c f (kc + 9) (kn + 21600) L M (b_L_shore_322 Z M kc kn (some a) (some x) (nI f) y (some w) (some w) 2 1 v (nI q)) := by
  unfold b_L_shore_322
  refine p_ck ⟨by omega, by omega⟩ ?_
  refine r_below rfl (by omega) (by omega) (fun r hr => ?_)
  obtain ⟨o1, o2, o3, o4⟩ := O
  rw [dr_S, ck_t o1, ck_t (show inb (2 : Int32) (mL M w) by rw [o2]; decide), lw_S]
  have S1 : BS a x c L (wI M w ((2 : Int32)).toNatClampNeg ((1 : Int32) + nI r)) := BS_I S o1
  have d2 : mI (wI M w ((2 : Int32)).toNatClampNeg ((1 : Int32) + nI r)) w 2 = nI (1 + r) := (up2_eq _ _ _ _).trans (nI_add 1 r)
  have d0 : mI (wI M w ((2 : Int32)).toNatClampNeg ((1 : Int32) + nI r)) w 0 = nI m := (up2_ne (.inr (by decide))).trans h0
  have ex : mI (wI M w ((2 : Int32)).toNatClampNeg ((1 : Int32) + nI r)) x = mI M x := (SM5_I (by omega)).2.2.1
  have O1 : OW x w 4 (wI M w ((2 : Int32)).toNatClampNeg ((1 : Int32) + nI r)) := ⟨o1, o2, o3, o4⟩
  generalize wI M w ((2 : Int32)).toNatClampNeg ((1 : Int32) + nI r) = M1 at S1 d2 d0 ex O1
  refine p_ck ⟨by omega, by omega⟩ ?_
  refine r_below (n := 2) rfl (by decide) (by decide) (fun s hs => ?_)
  have fin : ∀ q, q = 40 ∨ q = 9 → PFr a x c f (kc + 9) (kn + 21600) L M (b_L_shore_353 Z M1 (kc + 0 + 0) (kn + 0 + 0) (some a) (some x) (nI f) (some w) (some w) 3 1 (y >>> ((5 : Int32) &&& 31)) (nI q)) := fun q hq => by
    obtain ⟨M', kc', kn', z, z1, z2, z3, z4, z5, z6⟩ := f_353 (Z := Z) (kc := kc + 0 + 0) (kn := kn + 0 + 0) (v := y >>> ((5 : Int32) &&& 31)) S1 O1 d0 hm d2 ⟨by omega, by omega⟩ hf hq hc ⟨by omega, by omega⟩
    exact ⟨M', kc', kn', z, z1, z2, z3, z4.trans ex, by omega, by omega⟩
  by_cases c0 : nI s = 0
  · rw [if_pos c0]; exact fin 40 (.inl rfl)
  · rw [if_neg c0]; exact fin 9 (.inr rfl)
set_option maxRecDepth 20000 in
theorem f_step {Z : Nat → Nat} {a x c f kc kn n : Nat} {L : List Nat} {M : gMem} (S : BS a x c L M) (hZ : Z 401 < 2 ^ 30) (h1 : mI M x 1 = nI n) (hn : n ≤ 6) (hf : f < n) (hc : c + 32 ≤ 1199) (hk : kc + 10 ≤ 800 ∧ kn + 21604 ≤ 1200000) : PFr a x c f (kc + 10) (kn + 21604) L M (bb_L_shore_252 Z M kc kn (some a) (some x) (nI f)) := by
  unfold bb_L_shore_252
  refine r_dx S ?_
  rw [h1, if_neg (fun z => by have := (nI_leI (by omega) (by omega)).mp z; omega)]
  refine p_ck ⟨by omega, by omega⟩ ?_
  have hi : (4 : Int32) + (nI f - nI f / (3 : Int32) * (3 : Int32)) = nI (4 + f % 3) := by
    have : ∀ k, k < 6 → (4 : Int32) + (nI k - nI k / (3 : Int32) * (3 : Int32)) = nI (4 + k % 3) := by decide
    exact this f (by omega)
  refine r_cell hi (by omega) hZ (p_ck ⟨by omega, by omega⟩ ?_)
  rw [show ((4 : Int32)).toNatClampNeg = 4 from rfl, lw_S]
  generalize (clZ Z (4 + f % 3)) >>> (nI f / (3 : Int32) * (9 : Int32) &&& 31) = y
  have S1 : BS a x c L (nW M 20 4) := BS_n S
  have O1 : OW x (mN M) 4 (nW M 20 4) := OW_n S
  have ex : mI (nW M 20 4) x = mI M x := by have := S.2.2.2.1; exact (SM5_n (by omega)).2.2.1
  generalize nW M 20 4 = M1 at S1 O1 ex
  generalize mN M = w at O1
  refine p_ck ⟨by omega, by omega⟩ ?_
  refine r_below (n := 5) rfl (by decide) (by decide) (fun r hr => ?_)
  have hxw : x ≠ w := by have := O1.2.2.1; omega
  rw [ck_t O1.1, ck_t (show inb (0 : Int32) (mL M1 w) by rw [O1.2.1]; decide), lw_S]
  have S2 : BS a x c L (wI M1 w ((0 : Int32)).toNatClampNeg ((1 : Int32) + nI r)) := BS_I S1 O1.1
  have d0 : mI (wI M1 w ((0 : Int32)).toNatClampNeg ((1 : Int32) + nI r)) w 0 = nI (1 + r) := (up2_eq _ _ _ _).trans (nI_add 1 r)
  have ex2 : mI (wI M1 w ((0 : Int32)).toNatClampNeg ((1 : Int32) + nI r)) x = mI M x := (SM5_I hxw).2.2.1.trans ex
  have O2 : OW x w 4 (wI M1 w ((0 : Int32)).toNatClampNeg ((1 : Int32) + nI r)) := O1
  generalize wI M1 w ((0 : Int32)).toNatClampNeg ((1 : Int32) + nI r) = M2 at S2 d0 ex2 O2
  rw [ck_t (show inb (1 : Int32) (mL M2 w) by rw [O2.2.1]; decide), lw_S]
  have S3 : BS a x c L (wI M2 w ((1 : Int32)).toNatClampNeg 0) := BS_I S2 O2.1
  have e0 : mI (wI M2 w ((1 : Int32)).toNatClampNeg 0) w 0 = nI (1 + r) := (up2_ne (.inr (by decide))).trans d0
  have ex3 : mI (wI M2 w ((1 : Int32)).toNatClampNeg 0) x = mI M x := (SM5_I hxw).2.2.1.trans ex2
  have O3 : OW x w 4 (wI M2 w ((1 : Int32)).toNatClampNeg 0) := O2
  generalize wI M2 w ((1 : Int32)).toNatClampNeg 0 = M3 at S3 e0 ex3 O3
  refine p_ck ⟨by omega, by omega⟩ ?_
  refine r_below (n := 2) rfl (by decide) (by decide) (fun s hs => ?_)
  have fin : ∀ q, q = 99 ∨ q = 25 → PFr a x c f (kc + 10) (kn + 21604) L M (b_L_shore_322 Z M3 (kc + 0 + 1 + 0 + 0) (kn + 0 + 4 + 0 + 0) (some a) (some x) (nI f) y (some w) (some w) 2 1 (y >>> ((3 : Int32) &&& 31)) (nI q)) := fun q hq => by
    obtain ⟨M', kc', kn', z, z1, z2, z3, z4, z5, z6⟩ := f_322 (Z := Z) (kc := kc + 0 + 1 + 0 + 0) (kn := kn + 0 + 4 + 0 + 0) (y := y) (v := y >>> ((3 : Int32) &&& 31)) S3 O3 e0 ⟨by omega, by omega⟩ (show f < 6 by omega) hq hc ⟨by omega, by omega⟩
    exact ⟨M', kc', kn', z, z1, z2, z3, z4.trans ex3, by omega, by omega⟩
  by_cases c0 : nI s = 0
  · rw [if_pos c0]; exact fin 99 (.inl rfl)
  · rw [if_neg c0]; exact fin 25 (.inr rfl)
set_option maxRecDepth 20000 in
theorem f_loop {Z : Nat → Nat} {a x c kc kn n : Nat} {L : List Nat} {M : gMem} (S : BS a x c L M) (hZ : Z 401 < 2 ^ 30) (h1 : mI M x 1 = nI n) (hn : n ≤ 6) (hc : c + 192 ≤ 1199) (hk : kc + 60 ≤ 800 ∧ kn + 129624 ≤ 1200000) : ∃ M' kc' kn' l k, l.length = n ∧ (∀ y, y ∈ l → fOk y) ∧ BS a x (c + 32 * n) (L ++ fTs 0 l) M' ∧ k < 9 ∧ mI M' x 5 = nI k ∧ (∀ j, j ≠ 5 → mI M' x j = mI M x j) ∧ kc' ≤ kc + 10 * n ∧ kn' ≤ kn + 21604 * n ∧ lp_L_shore_252 Z M kc kn (some a) (some x) (nI 0) = lp_L_shore_451 Z M' kc' kn' (some a) (some x) (nI 0) := by
  obtain ⟨q, ⟨M', kc', kn', l, rfl, e1, e2, e3, e4, e5, e6⟩, hq⟩ := lp_ex (f := fun (q : gMem × Nat × Nat × Int32) => bb_L_shore_252 Z q.1 q.2.1 q.2.2.1 (some a) (some x) q.2.2.2)
    (fun j q => ∃ M' kc' kn' l, q = (M', kc', kn', nI j) ∧ l.length = j ∧ (∀ y, y ∈ l → fOk y) ∧ BS a x (c + 32 * j) (L ++ fTs 0 l) M' ∧ mI M' x = mI M x ∧ kc' ≤ kc + 10 * j ∧ kn' ≤ kn + 21604 * j) n (fun j q hj hq => by
      obtain ⟨M', kc', kn', l, rfl, e1, e2, e3, e4, e5, e6⟩ := hq
      obtain ⟨M2, kc2, kn2, z, f1, f2, f3, f4, f5, f6⟩ := f_step (Z := Z) (kc := kc') (kn := kn') (f := j) e3 hZ (by rw [e4]; exact h1) hn hj (by omega) ⟨by omega, by omega⟩
      refine ⟨_, f1, M2, kc2, kn2, l ++ [z], rfl, by simp [e1], fun w hw => ?_, by rw [fTs_app, Nat.zero_add, e1, ← List.append_assoc, show c + 32 * (j + 1) = c + 32 * j + 32 by omega]; exact f3, f4.trans e4, by omega, by rw [Nat.mul_succ]; exact Nat.le_trans f6 (by rw [← Nat.add_assoc]; exact Nat.add_le_add_right e6 _)⟩
      rcases List.mem_append.mp hw with hw | hw
      · exact e2 w hw
      · rw [List.mem_singleton.mp hw]; exact f2) n 0 (M, kc, kn, nI 0) (by omega) ⟨M, kc, kn, [], rfl, rfl, fun w hw => absurd hw List.not_mem_nil, by rw [show c + 32 * 0 = c from rfl, show L ++ fTs 0 [] = L from List.append_nil L]; exact S, rfl, by omega, by omega⟩
  obtain ⟨cl1, cl2⟩ := l_below (M := M') (v := clZ Z 7) (n := 9) (by decide) (by decide)
  refine ⟨wI M' x 5 (nI (blw (clZ Z 7) 9)), kc' + 0 + 0, kn' + 0 + 0, l, blw (clZ Z 7) 9, e1, e2, BS_W e3 (by rw [e3.2.2.1]; decide) (by rw [e3.2.2.1]; decide), cl2, up2_eq _ _ _ _, fun j hj => (up2_ne (.inr hj)).trans (by rw [e4]), by omega, by omega, ?_⟩
  unfold lp_L_shore_252
  rw [hq]
  refine lp_oI ?_
  show bb_L_shore_252 Z M' kc' kn' (some a) (some x) (nI n) = _
  unfold bb_L_shore_252
  rw [dr_S, ck_t e3.2.2.1, e4, h1, if_pos ((nI_leI (by omega) (by omega)).mpr (Nat.le_refl _)), ck_t ⟨by omega, by omega⟩, show (7 : Int32) = nI 7 from rfl, l_cell (by decide) hZ, bd_S, ck_t ⟨by omega, by omega⟩, show (9 : Int32) = nI 9 from rfl, cl1, bd_S, ck_t e3.2.2.1, lw_S]
  rfl
