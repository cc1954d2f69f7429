/-! ## Pure: the line of a ground, and all grounds -/
theorem FRt_i {M M' : gMem} {c : Nat} (F : FRt M M') (hc : c < mN M) (ht : mT M c = 20) : mI M' c = mI M c ∧ mT M' c = 20 ∧ mL M' c = mL M c ∧ c < mN M' := by
  obtain ⟨z1, z2, z3⟩ := F.1 c hc
  exact ⟨(z3 (by rw [ht]; decide) (by rw [ht]; decide)).1, z1.trans ht, z2, Nat.lt_of_lt_of_le hc F.2⟩
theorem FRt_x {a x c : Nat} {L : List Nat} {M M' : gMem} (S : BS a x c L M) (F : FRt M M') : mI M' x = mI M x := by
  have := S.2.2.2.1
  obtain ⟨-, -, z3⟩ := F.1 x (by omega)
  exact (z3 (by rw [S.2.2.1]; decide) (by rw [S.2.2.1]; decide)).1
theorem FRt_xr {a x c : Nat} {L : List Nat} {M M' : gMem} (S : BS a x c L M) (F : FRt M M') : mR M' x = mR M x := by
  have := S.2.2.2.1
  obtain ⟨-, -, z3⟩ := F.1 x (by omega)
  exact (z3 (by rw [S.2.2.1]; decide) (by rw [S.2.2.1]; decide)).2
def gOk (y : Nat × List Nat) : Prop := 1 ≤ y.1 ∧ y.1 ≤ 8 ∧ 1 ≤ y.2.length ∧ y.2.length ≤ 5 ∧ ∀ z, z ∈ y.2 → z < 100
def PGr (a x c g kc kn : Nat) (L : List Nat) (M : gMem) (o : Option ((gMem × Nat × Nat × Int32) ⊕ (Option Nat × gMem))) : Prop := ∃ M' kc' kn' y, o = some (.inl (M', kc', kn', nI (g + 1))) ∧ gOk y ∧ BS a x (c + 40) (L ++ gT g y.1 y.2) M' ∧ mI M' x = mI M x ∧ kc' ≤ kc + 16 ∧ kn' ≤ kn + 38400
set_option maxRecDepth 20000 in
theorem sz_loop {Z : Nat → Nat} {a x c g kc kn s : Nat} {L : List Nat} {M : gMem} {y : Int32} (S : BS a x c L M) (hg : g < 4) (hs : s ≤ 5) (h1 : 1 ≤ s) (hc : c + 15 ≤ 1199) (hk : kc + 10 ≤ 800 ∧ kn + 24000 ≤ 1200000) : ∃ M' kc' kn' zs, zs.length = s ∧ (∀ z, z ∈ zs → z < 100) ∧ BS a x (c + 3 * s) (L ++ zT 1 zs) M' ∧ mI M' x = mI M x ∧ kc' ≤ kc + 2 * s ∧ kn' ≤ kn + 4800 * s ∧ lp_L_shore_130 Z M kc kn (some a) (some x) (nI g) y (nI s) (nI 1) = (if g % 2 = 0 then b_L_shore_224 Z M' kc' kn' (some a) (some x) (nI g) (some a) 80 else b_L_shore_224 Z M' kc' kn' (some a) (some x) (nI g) (some a) 81) := by
  obtain ⟨q, ⟨M', kc', kn', zs, rfl, e1, e2, e3, e4, e5, e6⟩, hq⟩ := lp_ex (f := fun (q : gMem × Nat × Nat × Int32) => bb_L_shore_130 Z q.1 q.2.1 q.2.2.1 (some a) (some x) (nI g) y (nI s) q.2.2.2)
    (fun j q => ∃ M' kc' kn' zs, q = (M', kc', kn', nI (j + 1)) ∧ zs.length = j ∧ (∀ z, z ∈ zs → z < 100) ∧ BS a x (c + 3 * j) (L ++ zT 1 zs) M' ∧ mI M' x = mI M x ∧ kc' ≤ kc + 2 * j ∧ kn' ≤ kn + 4800 * j) s (fun j q hj hq => by
      obtain ⟨M', kc', kn', zs, rfl, e1, e2, e3, e4, e5, e6⟩ := hq
      obtain ⟨M2, z, kc2, kn2, f1, f2, f3, f4, f5, f6⟩ := sz_step (Z := Z) (kc := kc') (kn := kn') (m := j + 1) (s := s) (y := y) e3 (by rw [e1]) hg hs (by omega) (by omega) ⟨by omega, by omega⟩
      refine ⟨_, f1, M2, kc2, kn2, zs ++ [z], rfl, by simp [e1], fun w hw => ?_, by rw [show c + 3 * (j + 1) = c + 3 * j + 3 by omega]; exact f3, f4.trans e4, by omega, by omega⟩
      rcases List.mem_append.mp hw with hw | hw
      · exact e2 w hw
      · rw [List.mem_singleton.mp hw]; exact f2) s 0 (M, kc, kn, nI 1) (by omega) ⟨M, kc, kn, [], rfl, rfl, fun w hw => absurd hw List.not_mem_nil, by rw [show c + 3 * 0 = c from rfl, show L ++ zT 1 [] = L from List.append_nil L]; exact S, rfl, by omega, by omega⟩
  refine ⟨M', kc', kn', zs, e1, e2, e3, e4, e5, e6, ?_⟩
  unfold lp_L_shore_130
  rw [hq]
  refine lp_oI ?_
  show bb_L_shore_130 Z M' kc' kn' (some a) (some x) (nI g) y (nI s) (nI (s + 1)) = _
  unfold bb_L_shore_130
  rw [if_pos ((nI_ltI (by omega) (by omega)).mpr (by omega))]
  have hg2 : (nI g - nI g / (2 : Int32) * (2 : Int32) = 0) ↔ g % 2 = 0 := by
    have : ∀ k, k < 4 → ((nI k - nI k / (2 : Int32) * (2 : Int32) = 0) ↔ k % 2 = 0) := by decide
    exact this g hg
  by_cases c1 : g % 2 = 0
  · rw [if_pos c1, if_pos (hg2.mpr c1)]
  · rw [if_neg c1, if_neg (fun z => c1 (hg2.mp z))]
set_option maxRecDepth 20000 in
theorem g_78 {Z : Nat → Nat} {a x c g kc kn q : Nat} {L : List Nat} {M : gMem} {y v : Int32} (S : BS a x c L M) (hg : g < 4) (hq : q = 8 ∨ q = 2) (hc : c + 40 ≤ 1199) (hk : kc + 16 ≤ 800 ∧ kn + 38400 ≤ 1200000) : PGr a x c g kc kn L M (b_L_shore_78 Z M kc kn (some a) (some x) (nI g) y (some (x + 2 + g)) 0 1 v (nI q)) := by
  obtain ⟨w1, w2, w3⟩ := S.2.2.2.2.2.1.2.2 g (by omega)
  unfold b_L_shore_78
  refine p_ck ⟨by omega, by omega⟩ ?_
  refine r_below rfl (by omega) (by omega) (fun r hr => ?_)
  rw [dr_S, ck_t w2, ck_t (show inb (0 : Int32) (mL M (x + 2 + g)) by rw [w3]; decide), lw_S]
  have S1 : BS a x c L (wI M (x + 2 + g) ((0 : Int32)).toNatClampNeg ((1 : Int32) + nI r)) := BS_I S w2
  have e1 : mI (wI M (x + 2 + g) ((0 : Int32)).toNatClampNeg ((1 : Int32) + nI r)) (x + 2 + g) 0 = nI (1 + r) := (up2_eq _ _ _ _).trans (by rw [← nI_add]; rfl)
  have ex : mI (wI M (x + 2 + g) ((0 : Int32)).toNatClampNeg ((1 : Int32) + nI r)) x = mI M x := (SM5_I (by omega)).2.2.1
  have t20 : mT (wI M (x + 2 + g) ((0 : Int32)).toNatClampNeg ((1 : Int32) + nI r)) (x + 2 + g) = 20 := w2
  have n2 : x + 2 + g < mN (wI M (x + 2 + g) ((0 : Int32)).toNatClampNeg ((1 : Int32) + nI r)) := by have := S.2.2.2.1; show x + 2 + g < mN M; omega
  generalize wI M (x + 2 + g) ((0 : Int32)).toNatClampNeg ((1 : Int32) + nI r) = M1 at S1 e1 ex t20 n2
  refine r_da S1 (p_ck ⟨by omega, by omega⟩ ?_)
  refine r_app S1 (e := 8) (by decide) (by decide) (by omega) (fun M2 S2 F2 => ?_)
  refine r_da S2 (p_ck ⟨by omega, by omega⟩ ?_)
  refine r_int S2 (y := g) (d := 1) rfl (by omega) (dgL_1 (by omega)) (by omega) (fun M3 S3 F3 => ?_)
  refine r_da S3 (p_ck ⟨by omega, by omega⟩ ?_)
  refine r_app S3 (e := 6) (by decide) (by decide) (by omega) (fun M4 S4 F4 => ?_)
  refine r_dx S4 ?_
  have F := FRt_t F2 (FRt_t F3 F4)
  obtain ⟨i1, i2, i3, i4⟩ := FRt_i F n2 t20
  obtain ⟨rr2, -, -, -, -⟩ := S4.2.2.2.2.1
  obtain ⟨aa1, aa2, aa3⟩ := S4.2.2.2.2.2.1
  obtain ⟨ww1, ww2, ww3⟩ := aa3 g (by omega)
  rw [rr2, dr_S, ck_t aa1, ck_t (show inb (nI g) (mL M4 (x + 1)) by rw [aa2]; exact (inbN (by omega)).mpr (by omega)), nI_clamp (by omega), ww1, dr_S, ck_t ww2, ck_t (show inb (0 : Int32) (mL M4 (x + 2 + g)) by rw [ww3]; decide)]
  refine r_da S4 (p_ck ⟨by omega, by omega⟩ ?_)
  refine r_int S4 (y := 1 + r) (d := 1) (by rw [show ((0 : Int32)).toNatClampNeg = 0 from rfl, i1]; exact e1) (by omega) (dgL_1 (by omega)) (by omega) (fun M5 S5 F5 => ?_)
  refine r_da S5 (p_ck ⟨by omega, by omega⟩ ?_)
  refine r_app S5 (e := 6) (by decide) (by decide) (by omega) (fun M6 S6 F6 => ?_)
  refine p_ck ⟨by omega, by omega⟩ ?_
  refine r_below (n := 5) rfl (by decide) (by decide) (fun s hs => ?_)
  obtain ⟨M7, kc7, kn7, zs, z1, z2, z3, z4, z5, z6, z7⟩ := sz_loop (Z := Z) (kc := kc + 0 + 1 + 1 + 1 + 1 + 1 + 0) (kn := kn + 0 + 2400 + 2400 + 2400 + 2400 + 2400 + 0) (s := 1 + s) (y := y) S6 hg (by omega) (by omega) (by omega) ⟨by omega, by omega⟩
  rw [show (1 : Int32) + nI s = nI (1 + s) from nI_add 1 s]
  show PGr a x c g kc kn L M (lp_L_shore_130 Z M6 _ _ (some a) (some x) (nI g) y (nI (1 + s)) (nI 1))
  rw [z7]
  have xx : mI M6 x = mI M x := (FRt_x S4 (FRt_t F5 F6)).trans ((FRt_x S1 F).trans ex)
  have fin : ∀ jj, jj < 94 → (sLs jj).length ≤ 3 → jj = (if g % 2 = 0 then 80 else 81) → PGr a x c g kc kn L M (b_L_shore_224 Z M7 kc7 kn7 (some a) (some x) (nI g) (some a) jj) := fun jj j1 j2 j3 => by
    unfold b_L_shore_224
    refine r_da z3 (p_ck ⟨by omega, by omega⟩ ?_)
    refine r_app z3 (e := 3) j1 j2 (by omega) (fun M8 S8 F8 => ?_)
    refine ⟨M8, _, _, (1 + r, zs), by rw [nI_1], ⟨by show 1 ≤ 1 + r; omega, by show 1 + r ≤ 8; omega, by show 1 ≤ zs.length; omega, by show zs.length ≤ 5; omega, z2⟩, ?_, (FRt_x z3 F8).trans (z4.trans xx), by omega, by omega⟩
    show BS a x (c + 40) (L ++ gT g (1 + r) zs) M8
    unfold gT
    rw [← j3]
    simp only [List.append_assoc] at S8 ⊢
    exact ⟨S8.1, by have := S8.2.1; omega, S8.2.2⟩
  by_cases c1 : g % 2 = 0
  · rw [if_pos c1]; exact fin 80 (by decide) (by decide) (by rw [if_pos c1])
  · rw [if_neg c1]; exact fin 81 (by decide) (by decide) (by rw [if_neg c1])
