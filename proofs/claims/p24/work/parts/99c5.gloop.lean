/-! ## Pure: all grounds -/
set_option maxRecDepth 50000 in
theorem g_step {Z : Nat → Nat} {a x c g kc kn n : Nat} {L : List Nat} {M : gMem} (S : BS a x c L M) (hZ : Z 401 < 2 ^ 30) (h1 : mI M x 0 = nI n) (hn : n ≤ 4) (hg : g < n) (hc : c + 40 ≤ 1199) (hk : kc + 16 ≤ 800 ∧ kn + 38400 ≤ 1200000) : PGr a x c g kc kn L M (bb_L_shore_25 Z M kc kn (some a) (some x) (nI g)) := by
  unfold bb_L_shore_25
  refine r_dx S ?_
  rw [h1, if_neg (fun z => by have := (nI_leI (by omega) (by omega)).mp z; omega)]
  refine p_ck ⟨by omega, by omega⟩ ?_
  have hi : (1 : Int32) + (nI g - nI g / (2 : Int32) * (2 : Int32)) = nI (1 + g % 2) := by
    have : ∀ k, k < 4 → (1 : Int32) + (nI k - nI k / (2 : Int32) * (2 : Int32)) = nI (1 + k % 2) := by decide
    exact this g (by omega)
  refine r_cell hi (by omega) hZ ?_
  rw [ck_t S.2.2.1]
  generalize (clZ Z (1 + g % 2)) >>> (nI g / (2 : Int32) * (7 : Int32) &&& 31) = y
  obtain ⟨r2, -, -, -, -⟩ := S.2.2.2.2.1
  obtain ⟨a1, a2, a3⟩ := S.2.2.2.2.2.1
  obtain ⟨w1, w2, w3⟩ := a3 g (by omega)
  rw [r2, dr_S, ck_t a1, ck_t (show inb (nI g) (mL M (x + 1)) by rw [a2]; exact (inbN (by omega)).mpr (by omega))]
  refine p_ck ⟨by omega, by omega⟩ ?_
  refine r_below (n := 2) rfl (by decide) (by decide) (fun s hs => ?_)
  rw [nI_clamp (by omega), w1]
  have fin : ∀ q, q = 8 ∨ q = 2 → PGr a x c g kc kn L M (b_L_shore_78 Z M (kc + 0 + 0) (kn + 0 + 0) (some a) (some x) (nI g) y (some (x + 2 + g)) 0 1 y (nI q)) := fun q hq => g_78 (Z := Z) (kc := kc + 0 + 0) (kn := kn + 0 + 0) S (by omega) hq hc ⟨by omega, by omega⟩
  by_cases c0 : nI s = 0
  · rw [if_pos c0]; exact fin 8 (.inl rfl)
  · rw [if_neg c0]; exact fin 2 (.inr rfl)
set_option maxRecDepth 50000 in
theorem g_loop {Z : Nat → Nat} {a x c kc kn n : Nat} {L : List Nat} {M : gMem} (S : BS a x c L M) (hZ : Z 401 < 2 ^ 30) (h1 : mI M x 0 = nI n) (hn : n ≤ 4) (hc : c + 160 ≤ 1199) (hk : kc + 64 ≤ 800 ∧ kn + 153600 ≤ 1200000) : ∃ M' kc' kn' l k, l.length = n ∧ (∀ y, y ∈ l → gOk y) ∧ BS a x (c + 40 * n) (L ++ gTs 0 l) M' ∧ (1 ≤ k ∧ k ≤ 6) ∧ mI M' x 1 = nI k ∧ (∀ j, j ≠ 1 → mI M' x j = mI M x j) ∧ kc' ≤ kc + 16 * n ∧ kn' ≤ kn + 38400 * n ∧ lp_L_shore_25 Z M kc kn (some a) (some x) (nI 0) = lp_L_shore_252 Z M' kc' kn' (some a) (some x) (nI 0) := by
  obtain ⟨q, ⟨M', kc', kn', l, rfl, e1, e2, e3, e4, e5, e6⟩, hq⟩ := lp_ex (f := fun (q : gMem × Nat × Nat × Int32) => bb_L_shore_25 Z q.1 q.2.1 q.2.2.1 (some a) (some x) q.2.2.2)
    (fun j q => ∃ M' kc' kn' l, q = (M', kc', kn', nI j) ∧ l.length = j ∧ (∀ y, y ∈ l → gOk y) ∧ BS a x (c + 40 * j) (L ++ gTs 0 l) M' ∧ mI M' x = mI M x ∧ kc' ≤ kc + 16 * j ∧ kn' ≤ kn + 38400 * j) n (fun j q hj hq => by
      obtain ⟨M', kc', kn', l, rfl, e1, e2, e3, e4, e5, e6⟩ := hq
      obtain ⟨M2, kc2, kn2, z, f1, f2, f3, f4, f5, f6⟩ := g_step (Z := Z) (kc := kc') (kn := kn') (g := j) e3 hZ (by rw [e4]; exact h1) hn hj (by omega) ⟨by omega, by omega⟩
      refine ⟨_, f1, M2, kc2, kn2, l ++ [z], rfl, by simp [e1], fun w hw => ?_, by rw [gTs_app, Nat.zero_add, e1, ← List.append_assoc, show c + 40 * (j + 1) = c + 40 * j + 40 by omega]; exact f3, f4.trans e4, by omega, by rw [Nat.mul_succ]; exact Nat.le_trans f6 (by rw [← Nat.add_assoc]; exact Nat.add_le_add_right e6 _)⟩
      rcases List.mem_append.mp hw with hw | hw
      · exact e2 w hw
      · rw [List.mem_singleton.mp hw]; exact f2) n 0 (M, kc, kn, nI 0) (by omega) ⟨M, kc, kn, [], rfl, rfl, fun w hw => absurd hw List.not_mem_nil, by rw [show c + 40 * 0 = c from rfl, show L ++ gTs 0 [] = L from List.append_nil L]; exact S, rfl, by omega, by omega⟩
  obtain ⟨cl1, cl2⟩ := l_below (M := M') (v := clZ Z 3) (n := 6) (by decide) (by decide)
  refine ⟨wI M' x 1 ((1 : Int32) + nI (blw (clZ Z 3) 6)), kc' + 0 + 0, kn' + 0 + 0, l, 1 + blw (clZ Z 3) 6, e1, e2, BS_W e3 (by rw [e3.2.2.1]; decide) (by rw [e3.2.2.1]; decide), ⟨by omega, by omega⟩, (up2_eq _ _ _ _).trans (nI_add 1 _), fun j hj => (up2_ne (.inr hj)).trans (by rw [e4]), by omega, by omega, ?_⟩
  unfold lp_L_shore_25
  rw [hq]
  refine lp_oI ?_
  show bb_L_shore_25 Z M' kc' kn' (some a) (some x) (nI n) = _
  unfold bb_L_shore_25
  rw [dr_S, ck_t e3.2.2.1, e4, h1, if_pos ((nI_leI (by omega) (by omega)).mpr (Nat.le_refl _)), ck_t ⟨by omega, by omega⟩, show (3 : Int32) = nI 3 from rfl, l_cell (by decide) hZ, bd_S, ck_t ⟨by omega, by omega⟩, show (6 : Int32) = nI 6 from rfl, cl1, bd_S, ck_t e3.2.2.1, lw_S]
  rfl
