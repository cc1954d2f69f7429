/-! ## Pure: the line of a fisher, and all fishers -/
theorem BS_b {a x c : Nat} {L : List Nat} {M M' : gMem} (S : BS a x c L M) (h : FRb (mN M) M M') : BS a x c L M' := by
  obtain ⟨⟨v, ⟨t1, r1, c1, n1⟩, ⟨t2, l1, l2⟩, ⟨o1, o2⟩, b1, b2⟩, hc, hs⟩ := S
  obtain ⟨x1, x2, x3, x4, x5⟩ := h.1 a (by omega)
  obtain ⟨y1, y2, y3, y4, y5⟩ := h.1 v o2
  refine ⟨⟨v, ⟨by rw [x1]; exact t1, by rw [x5]; exact r1, by rw [x4]; exact c1, by rw [x4]; exact n1⟩, ⟨by rw [y1]; exact t2, by rw [y2]; exact l1, by rw [y2]; exact l2⟩, ⟨o1, Nat.lt_of_lt_of_le o2 h.2⟩, fun i hi => by rw [y4]; exact b1 i hi, fun i hi => by rw [y2] at hi; rw [y4]; exact b2 i hi⟩, hc, SIM_f hs ⟨fun d hd => ?_, h.2⟩⟩
  obtain ⟨z1, z2, z3, z4, z5⟩ := h.1 d hd
  exact ⟨z1, z2, fun _ _ => ⟨z4, z5⟩⟩
theorem FRb_nW {M : gMem} {t n : Nat} : FRb (mN M) M (nW M t n) := ⟨fun c hc => by
  obtain ⟨z1, z2, z3, z4, z5⟩ := SM5_n (M := M) (t := t) (n := n) (c := c) (by omega)
  exact ⟨z1, z2, z5, z3, z4⟩, Nat.le_succ _⟩
theorem BS_n {a x c t n : Nat} {L : List Nat} {M : gMem} (S : BS a x c L M) : BS a x c L (nW M t n) := BS_b S FRb_nW
theorem BS_W {a x c w k : Nat} {L : List Nat} {M : gMem} {y : Int32} (S : BS a x c L M) (h1 : mT M w ≠ 13) (h2 : mT M w ≠ 22) : BS a x c L (wI M w k y) := by
  obtain ⟨⟨v, ⟨t1, r1, c1, n1⟩, ⟨t2, l1, l2⟩, o, b1, b2⟩, hc, hs⟩ := S
  have ha : a ≠ w := fun z => h1 (by rw [← z]; exact t1)
  have hv : v ≠ w := fun z => h2 (by rw [← z]; exact t2)
  have ea : ∀ j, mI (wI M w k y) a j = mI M a j := fun j => up2_ne (.inl ha)
  have ev : ∀ j, mI (wI M w k y) v j = mI M v j := fun j => up2_ne (.inl hv)
  exact ⟨⟨v, ⟨t1, r1, by rw [ea]; exact c1, by rw [ea]; exact n1⟩, ⟨t2, l1, l2⟩, o, fun i hi => by rw [ev]; exact b1 i hi, fun i hi => by rw [ev]; exact b2 i hi⟩, hc, hs⟩
theorem BS_R {a x c w k : Nat} {L : List Nat} {M : gMem} {r : Option Nat} (S : BS a x c L M) (h1 : mT M w = 28) (h2 : w ≠ x + 1) : BS a x c L (wR M w k r) := by
  obtain ⟨⟨v, ⟨t1, r1, c1, n1⟩, ⟨t2, l1, l2⟩, o, b1, b2⟩, hc, ⟨s1, s2, ⟨r2, r3, r4, r6, r7⟩, ⟨a1, a2, a3⟩, rest⟩⟩ := S
  have ha : a ≠ w := fun z => by rw [← z, t1] at h1; exact absurd h1 (by decide)
  have hx : x ≠ w := fun z => by rw [← z, s1] at h1; exact absurd h1 (by decide)
  have ea : ∀ j, mR (wR M w k r) a j = mR M a j := fun j => up2_ne (.inl ha)
  have ex : ∀ j, mR (wR M w k r) x j = mR M x j := fun j => up2_ne (.inl hx)
  have e1 : ∀ j, mR (wR M w k r) (x + 1) j = mR M (x + 1) j := fun j => up2_ne (.inl fun z => h2 z.symm)
  exact ⟨⟨v, ⟨t1, by rw [ea]; exact r1, c1, n1⟩, ⟨t2, l1, l2⟩, o, b1, b2⟩, hc, ⟨s1, s2, ⟨by rw [ex]; exact r2, by rw [ex]; exact r3, by rw [ex]; exact r4, by rw [ex]; exact r6, by rw [ex]; exact r7⟩, ⟨a1, a2, fun i hi => ⟨by rw [e1]; exact (a3 i hi).1, (a3 i hi).2⟩⟩, rest⟩⟩
/-- an own row of n places at w, beside the shore by hand -/
def OW (x w n : Nat) (M : gMem) : Prop := mT M w = 20 ∧ mL M w = n ∧ x + 52 ≤ w ∧ w < mN M
theorem OW_f {x w n : Nat} {M M' : gMem} (h : OW x w n M) (F : FRt M M') : OW x w n M' ∧ mI M' w = mI M w := by
  obtain ⟨h1, h2, h3, h4⟩ := h
  obtain ⟨z1, z2, z3, z4⟩ := FRt_i F h4 h1
  exact ⟨⟨z2, z3.trans h2, h3, z4⟩, z1⟩
theorem OW_n {a x c n : Nat} {L : List Nat} {M : gMem} (S : BS a x c L M) : OW x (mN M) n (nW M 20 n) := ⟨up1_e _ _ _, up1_e _ _ _, S.2.2.2.1, Nat.lt_succ_self _⟩
theorem OW_I {x w n c k : Nat} {y : Int32} {M : gMem} (h : OW x w n M) : OW x w n (wI M c k y) := h
theorem OW_R {x w n c k : Nat} {y : Option Nat} {M : gMem} (h : OW x w n M) : OW x w n (wR M c k y) := h
/-- a fisher's text -/
def fT (f : Nat) (y : Nat × Nat × Nat) : List Nat := sLs 82 ++ dgL f ++ sLs 83 ++ dgL y.1 ++ sLs 84 ++ dgL y.2.1 ++ sLs 85 ++ dgL y.2.2 ++ sLs 80
def fTs : Nat → List (Nat × Nat × Nat) → List Nat
  | _, [] => []
  | f, y :: t => fT f y ++ fTs (f + 1) t
theorem fTs_app : ∀ (l : List (Nat × Nat × Nat)) (f : Nat) (y : Nat × Nat × Nat), fTs f (l ++ [y]) = fTs f l ++ fT (f + l.length) y
  | [], f, y => by simp [fTs]
  | z :: l, f, y => by
    show fT f z ++ fTs (f + 1) (l ++ [y]) = _
    rw [fTs_app l (f + 1) y, show f + 1 + l.length = f + (z :: l).length by simp [List.length_cons]; omega]
    simp [fTs, List.append_assoc]
def fOk (y : Nat × Nat × Nat) : Prop := (1 ≤ y.1 ∧ y.1 ≤ 5) ∧ (1 ≤ y.2.1 ∧ y.2.1 ≤ 99) ∧ 1 ≤ y.2.2 ∧ y.2.2 ≤ 40
def PFr (a x c f kq nq : Nat) (L : List Nat) (M : gMem) (o : Option ((gMem × Nat × Nat × Int32) ⊕ (Option Nat × gMem))) : Prop := ∃ M' kc' kn' y, o = some (.inl (M', kc', kn', nI (f + 1))) ∧ fOk y ∧ BS a x (c + 32) (L ++ fT f y) M' ∧ mI M' x = mI M x ∧ kc' ≤ kq ∧ kn' ≤ nq
set_option maxRecDepth 20000 in
theorem f_353 {Z : Nat → Nat} {a x c f kc kn q w m n : Nat} {L : List Nat} {M : gMem} {v : Int32} (S : BS a x c L M) (O : OW x w 4 M) (h0 : mI M w 0 = nI m) (hm : 1 ≤ m ∧ m ≤ 5) (h2 : mI M w 2 = nI n) (hn : 1 ≤ n ∧ n ≤ 99) (hf : f < 6) (hq : q = 40 ∨ q = 9) (hc : c + 32 ≤ 1199) (hk : kc + 9 ≤ 800 ∧ kn + 21600 ≤ 1200000) : PFr a x c f (kc + 9) (kn + 21600) L M (b_L_shore_353 Z M kc kn (some a) (some x) (nI f) (some w) (some w) 3 1 v (nI q)) := by
  unfold b_L_shore_353
  refine p_ck ⟨by omega, by omega⟩ ?_
  refine r_below rfl (by omega) (by omega) (fun r hr => ?_)
  obtain ⟨o1, o2, o3, o4⟩ := O
  rw [dr_S, ck_t o1, ck_t (show inb (3 : Int32) (mL M w) by rw [o2]; decide), lw_S, dr_S]
  have S1 : BS a x c L (wI M w ((3 : Int32)).toNatClampNeg ((1 : Int32) + nI r)) := BS_I S o1
  have d3 : mI (wI M w ((3 : Int32)).toNatClampNeg ((1 : Int32) + nI r)) w 3 = nI (1 + r) := (up2_eq _ _ _ _).trans (nI_add 1 r)
  have d0 : mI (wI M w ((3 : Int32)).toNatClampNeg ((1 : Int32) + nI r)) w 0 = nI m := (up2_ne (.inr (by decide))).trans h0
  have d2 : mI (wI M w ((3 : Int32)).toNatClampNeg ((1 : Int32) + nI r)) w 2 = nI n := (up2_ne (.inr (by decide))).trans h2
  have ex : mI (wI M w ((3 : Int32)).toNatClampNeg ((1 : Int32) + nI r)) x = mI M x := (SM5_I (by omega)).2.2.1
  have O1 : OW x w 4 (wI M w ((3 : Int32)).toNatClampNeg ((1 : Int32) + nI r)) := ⟨o1, o2, o3, o4⟩
  generalize wI M w ((3 : Int32)).toNatClampNeg ((1 : Int32) + nI r) = M1 at S1 d3 d0 d2 ex O1
  rw [ck_t O1.1, ck_t (show inb (0 : Int32) (mL M1 w) by rw [O1.2.1]; decide), ck_t (show inb (1 : Int32) (mL M1 w) by rw [O1.2.1]; decide), lw_S]
  have S2 : BS a x c L (wI M1 w ((1 : Int32)).toNatClampNeg (mI M1 w ((0 : Int32)).toNatClampNeg)) := BS_I S1 O1.1
  have e3 : mI (wI M1 w ((1 : Int32)).toNatClampNeg (mI M1 w ((0 : Int32)).toNatClampNeg)) w 3 = nI (1 + r) := (up2_ne (.inr (by decide))).trans d3
  have e0 : mI (wI M1 w ((1 : Int32)).toNatClampNeg (mI M1 w ((0 : Int32)).toNatClampNeg)) w 0 = nI m := (up2_ne (.inr (by decide))).trans d0
  have e2 : mI (wI M1 w ((1 : Int32)).toNatClampNeg (mI M1 w ((0 : Int32)).toNatClampNeg)) w 2 = nI n := (up2_ne (.inr (by decide))).trans d2
  have ex2 : mI (wI M1 w ((1 : Int32)).toNatClampNeg (mI M1 w ((0 : Int32)).toNatClampNeg)) x = mI M x := (SM5_I (by omega)).2.2.1.trans ex
  have O2 : OW x w 4 (wI M1 w ((1 : Int32)).toNatClampNeg (mI M1 w ((0 : Int32)).toNatClampNeg)) := O1
  generalize wI M1 w ((1 : Int32)).toNatClampNeg (mI M1 w ((0 : Int32)).toNatClampNeg) = M2 at S2 e3 e0 e2 ex2 O2
  refine r_dx S2 ?_
  obtain ⟨-, rr3, -, -, -⟩ := S2.2.2.2.2.1
  obtain ⟨b1, b2⟩ := S2.2.2.2.2.2.2.1
  rw [rr3, dr_S, ck_t b1, ck_t (show inb (nI f) (mL M2 (x + 10)) by rw [b2]; exact (inbN (by omega)).mpr (by omega)), lw_S]
  have S3 : BS a x c L (wR M2 (x + 10) (nI f).toNatClampNeg (some w)) := BS_R S2 b1 (by omega)
  have O3 : OW x w 4 (wR M2 (x + 10) (nI f).toNatClampNeg (some w)) := O2
  have g3 : mI (wR M2 (x + 10) (nI f).toNatClampNeg (some w)) w 3 = nI (1 + r) := e3
  have g0 : mI (wR M2 (x + 10) (nI f).toNatClampNeg (some w)) w 0 = nI m := e0
  have g2 : mI (wR M2 (x + 10) (nI f).toNatClampNeg (some w)) w 2 = nI n := e2
  have ex3 : mI (wR M2 (x + 10) (nI f).toNatClampNeg (some w)) x = mI M x := ex2
  generalize wR M2 (x + 10) (nI f).toNatClampNeg (some w) = M3 at S3 O3 g3 g0 g2 ex3
  refine r_da S3 (p_ck ⟨by omega, by omega⟩ ?_)
  refine r_app S3 (e := 8) (by decide) (by decide) (by omega) (fun M4 S4 F4 => ?_)
  refine r_da S4 (p_ck ⟨by omega, by omega⟩ ?_)
  refine r_int S4 (y := f) (d := 1) rfl (by omega) (dgL_1 (by omega)) (by omega) (fun M5 S5 F5 => ?_)
  refine r_da S5 (p_ck ⟨by omega, by omega⟩ ?_)
  refine r_app S5 (e := 6) (by decide) (by decide) (by omega) (fun M6 S6 F6 => ?_)
  have E6 := FRt_t F4 (FRt_t F5 F6)
  obtain ⟨O6, i6⟩ := OW_f O3 E6
  rw [ck_t O6.1, ck_t (show inb (0 : Int32) (mL M6 w) by rw [O6.2.1]; decide)]
  refine r_da S6 (p_ck ⟨by omega, by omega⟩ ?_)
  refine r_int S6 (y := m) (d := 1) (by rw [i6]; exact g0) (by omega) (dgL_1 (by omega)) (by omega) (fun M7 S7 F7 => ?_)
  refine r_da S7 (p_ck ⟨by omega, by omega⟩ ?_)
  refine r_app S7 (e := 5) (by decide) (by decide) (by omega) (fun M8 S8 F8 => ?_)
  have E8 := FRt_t E6 (FRt_t F7 F8)
  obtain ⟨O8, i8⟩ := OW_f O3 E8
  rw [ck_t O8.1, ck_t (show inb (2 : Int32) (mL M8 w) by rw [O8.2.1]; decide)]
  refine r_da S8 (p_ck ⟨by omega, by omega⟩ ?_)
  refine r_int S8 (y := n) (d := 2) (by rw [i8]; exact g2) (by omega) (dgL_2 (by omega)) (by omega) (fun M9 S9 F9 => ?_)
  refine r_da S9 (p_ck ⟨by omega, by omega⟩ ?_)
  refine r_app S9 (e := 6) (by decide) (by decide) (by omega) (fun M10 S10 F10 => ?_)
  have E10 := FRt_t E8 (FRt_t F9 F10)
  obtain ⟨O10, i10⟩ := OW_f O3 E10
  rw [ck_t O10.1, ck_t (show inb (3 : Int32) (mL M10 w) by rw [O10.2.1]; decide)]
  refine r_da S10 (p_ck ⟨by omega, by omega⟩ ?_)
  refine r_int S10 (y := 1 + r) (d := 2) (by rw [i10]; exact g3) (by omega) (dgL_2 (by omega)) (by omega) (fun M11 S11 F11 => ?_)
  refine r_da S11 (p_ck ⟨by omega, by omega⟩ ?_)
  refine r_app S11 (e := 1) (by decide) (by decide) (by omega) (fun M12 S12 F12 => ?_)
  refine ⟨M12, _, _, (m, n, 1 + r), by rw [nI_1], ⟨hm, hn, by show 1 ≤ 1 + r; omega, by show 1 + r ≤ 40; omega⟩, ?_, (FRt_x S3 (FRt_t E10 (FRt_t F11 F12))).trans ex3, by omega, by omega⟩
  unfold fT
  simp only [List.append_assoc] at S12 ⊢
  exact ⟨S12.1, by have := S12.2.1; omega, S12.2.2⟩
