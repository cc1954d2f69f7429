/-! ## Pure: the line of a go, and all goes -/
/-- a go as told: fisher, ground, kind, the test's ground, fisher, other fisher, number -/
def oT (k : Nat) (y : Nat × Nat × Nat × Nat × Nat × Nat × Nat) : List Nat := sLs 86 ++ dgL y.1 ++ sLs 87 ++ dgL y.2.1 ++ testL y.2.2.1 y.2.2.2.1 y.2.2.2.2.1 y.2.2.2.2.2.1 y.2.2.2.2.2.2 ++ sLs (if k % 3 = 0 then 88 else 80)
def oTs : Nat → List (Nat × Nat × Nat × Nat × Nat × Nat × Nat) → List Nat
  | _, [] => []
  | k, y :: t => oT k y ++ oTs (k + 1) t
theorem oTs_app : ∀ (l : List (Nat × Nat × Nat × Nat × Nat × Nat × Nat)) (f : Nat) (y : Nat × Nat × Nat × Nat × Nat × Nat × Nat), oTs f (l ++ [y]) = oTs f l ++ oT (f + l.length) y
  | [], f, y => by simp [oTs]
  | z :: l, f, y => by
    show oT f z ++ oTs (f + 1) (l ++ [y]) = _
    rw [oTs_app l (f + 1) y, show f + 1 + l.length = f + (z :: l).length by simp [List.length_cons]; omega]
    simp [oTs, List.append_assoc]
def oOk (F G : Nat) (y : Nat × Nat × Nat × Nat × Nat × Nat × Nat) : Prop := y.1 < F ∧ y.2.1 < G ∧ y.2.2.1 < 8 ∧ y.2.2.2.1 < G ∧ y.2.2.2.2.1 < F ∧ y.2.2.2.2.2.1 < F ∧ y.2.2.2.2.2.2 < 60
/-- only place k of row r -/
def E1 (r k : Nat) (c j : Nat) : Prop := c = r ∧ j = k
def POr (F G a x k c kq nq : Nat) (L : List Nat) (M : gMem) (o : Option ((gMem × Nat × Nat × Int32) ⊕ (Option Nat × gMem))) : Prop := ∃ M' kc' kn' y w, o = some (.inl (M', kc', kn', nI (k + 1))) ∧ oOk F G y ∧ BS a x (c + 66) (L ++ oT k y) M' ∧ mI M' x = mI M x ∧ FRo (mN M) (E1 (x + 19) k) M M' ∧ mR M' (x + 19) k = some w ∧ OW x w 7 M' ∧ mI M' w 2 = nI y.2.2.1 ∧ kc' ≤ kq ∧ kn' ≤ nq
set_option maxRecDepth 100000 in
theorem o_step {Z : Nat → Nat} {a x k c kc kn n F G B : Nat} {L : List Nat} {M : gMem} (S : BS a x c L M) (hZ : ZHy Z B) (hx : B ≤ x) (hG : mI M x 0 = nI G) (hF : mI M x 1 = nI F) (h5 : mI M x 5 = nI n) (hn : n ≤ 8) (hk : k < n) (hG1 : 1 ≤ G ∧ G ≤ 4) (hF1 : 1 ≤ F ∧ F ≤ 6) (hc : c + 66 ≤ 1199) (hq : kc + 41 ≤ 800 ∧ kn + 67303 ≤ 1200000) : POr F G a x k c (kc + 41) (kn + 67303) L M (bb_L_shore_451 Z M kc kn (some a) (some x) (nI k)) := by
  unfold bb_L_shore_451
  refine r_dx S ?_
  rw [h5, if_neg (fun z => by have := (nI_leI (by omega) (by omega)).mp z; omega)]
  refine p_ck ⟨by omega, by omega⟩ ?_
  have hi : (8 : Int32) + (nI k - nI k / (3 : Int32) * (3 : Int32)) = nI (8 + k % 3) := by
    have : ∀ k, k < 8 → (8 : Int32) + (nI k - nI k / (3 : Int32) * (3 : Int32)) = nI (8 + k % 3) := by decide
    exact this k (by omega)
  refine r_cell hi (by omega) hZ.1 (p_ck ⟨by omega, by omega⟩ ?_)
  rw [show ((7 : Int32)).toNatClampNeg = 7 from rfl, lw_S]
  generalize (clZ Z (8 + k % 3)) >>> (nI k / (3 : Int32) * (4 : Int32) &&& 31) + (61 : Int32) * nI k = y
  have G0 : GS (mN M) (E1 (x + 19) k) M a x (mN M) 7 c L (nW M 20 7) := GS_n S
  generalize nW M 20 7 = M1 at G0
  obtain ⟨w, hw⟩ : ∃ w, w = mN M := ⟨_, rfl⟩
  rw [← hw]
  rw [← hw] at G0
  rw [ck_t G0.1.2.2.1]
  refine p_ck ⟨by omega, by omega⟩ ?_
  refine r_below (n := F) (by rw [G0.2.2.2.1]; exact hF) (by omega) (by omega) (fun r0 hr0 => ?_)
  refine gs_w G0 (by decide) (fun M2 G2 i2 => ?_)
  rw [ck_t G2.1.2.2.1]
  refine p_ck ⟨by omega, by omega⟩ ?_
  refine r_below (n := G) (by rw [G2.2.2.2.1]; exact hG) (by omega) (by omega) (fun r1 hr1 => ?_)
  refine gs_w G2 (by decide) (fun M3 G3 i3 => ?_)
  refine p_ck ⟨by omega, by omega⟩ ?_
  refine r_below (n := 8) rfl (by decide) (by decide) (fun r2 hr2 => ?_)
  refine gs_w G3 (by decide) (fun M4 G4 i4 => ?_)
  refine p_ck ⟨by omega, by omega⟩ ?_
  refine r_below (n := 8) rfl (by decide) (by decide) (fun r3 hr3 => ?_)
  refine gs_w G4 (by decide) (fun M5 G5 i5 => ?_)
  refine p_ck ⟨by omega, by omega⟩ ?_
  refine r_below (n := 8) rfl (by decide) (by decide) (fun r4 hr4 => ?_)
  refine gs_w G5 (by decide) (fun M6 G6 i6 => ?_)
  refine p_ck ⟨by omega, by omega⟩ ?_
  refine r_below (n := 8) rfl (by decide) (by decide) (fun r5 hr5 => ?_)
  refine gs_w G6 (by decide) (fun M7 G7 i7 => ?_)
  refine p_ck ⟨by omega, by omega⟩ ?_
  refine r_below (n := 60) rfl (by decide) (by decide) (fun r6 hr6 => ?_)
  refine gs_w G7 (by decide) (fun M8 G8 i8 => ?_)
  have v0 : mI M8 w 0 = nI r0 := by rw [i8, i7, i6, i5, i4, i3, i2]; rfl
  have v1 : mI M8 w 1 = nI r1 := by rw [i8, i7, i6, i5, i4, i3]; rfl
  have v2 : mI M8 w 2 = nI r2 := by rw [i8, i7, i6, i5, i4]; rfl
  have v3 : mI M8 w 3 = nI r3 := by rw [i8, i7, i6, i5]; rfl
  have v4 : mI M8 w 4 = nI r4 := by rw [i8, i7, i6]; rfl
  have v5 : mI M8 w 5 = nI r5 := by rw [i8, i7]; rfl
  have v6 : mI M8 w 6 = nI r6 := by rw [i8]; rfl
  clear i2 i3 i4 i5 i6 i7 i8 G0 G2 G3 G4 G5 G6 G7
  rw [ck_t G8.1.2.2.1]
  obtain ⟨-, -, rr4, -, -⟩ := G8.1.2.2.2.2.1
  obtain ⟨b1, b2⟩ := G8.1.2.2.2.2.2.2.2.1
  rw [rr4, dr_S, ck_t b1, ck_t (show inb (nI k) (mL M8 (x + 19)) by rw [b2]; exact (inbN (by omega)).mpr (by omega)), nI_clamp (by omega), lw_S]
  obtain ⟨g1, g2, g3, g4, g5⟩ := G8
  have G9 : GS w (E1 (x + 19) k) M a x w 7 c L (wR M8 (x + 19) k (some w)) := ⟨BS_R g1 b1 (by omega), g2, FRo_t g3 (FRo_R ⟨rfl, rfl⟩), g4, g5⟩
  have m19 : mR (wR M8 (x + 19) k (some w)) (x + 19) k = some w := up2_eq _ _ _ _
  have t19 : mT (wR M8 (x + 19) k (some w)) (x + 19) = 28 := b1
  have iw : mI (wR M8 (x + 19) k (some w)) w = mI M8 w := rfl
  generalize wR M8 (x + 19) k (some w) = M9 at G9 m19 t19 iw
  clear g1 g2 g3 g4 g5 b1 b2 rr4
  refine r_da G9.1 (p_ck ⟨by omega, by omega⟩ ?_)
  refine gs_app G9 (e := 4) (by decide) (by decide) (by omega) (fun M10 G10 j10 F10 => ?_)
  rw [ck_t G10.2.1.1, ck_t (show inb (0 : Int32) (mL M10 w) by rw [G10.2.1.2.1]; decide)]
  refine r_da G10.1 (p_ck ⟨by omega, by omega⟩ ?_)
  refine gs_int G10 (y := r0) (d := 1) (by rw [j10, iw]; exact v0) (by omega) (dgL_1 (by omega)) (by omega) (fun M11 G11 j11 F11 => ?_)
  refine r_da G11.1 (p_ck ⟨by omega, by omega⟩ ?_)
  refine gs_app G11 (e := 5) (by decide) (by decide) (by omega) (fun M12 G12 j12 F12 => ?_)
  rw [ck_t G12.2.1.1, ck_t (show inb (1 : Int32) (mL M12 w) by rw [G12.2.1.2.1]; decide)]
  refine r_da G12.1 (p_ck ⟨by omega, by omega⟩ ?_)
  refine gs_int G12 (y := r1) (d := 1) (by rw [j12, j11, j10, iw]; exact v1) (by omega) (dgL_1 (by omega)) (by omega) (fun M13 G13 j13 F13 => ?_)
  refine p_ck ⟨by omega, by omega⟩ ?_
  have iv : mI M13 w = mI M8 w := by rw [j13, j12, j11, j10, iw]
  have E13 := FRt_t F10 (FRt_t F11 (FRt_t F12 F13))
  have n19 : x + 19 < mN M9 := by have := G9.1.2.2.2.1; omega
  have TT := test_abg (Z := Z) (M := M13) (w := w) (x := x) (g := r3 % G) (a := r4 % F) (b := r5 % F) (n := r6) (q := r2) (gr := G) (fi := F) (o3 := r3) (o4 := r4) (o5 := r5) G13.2.1.1 (by rw [G13.2.1.2.1]; exact Nat.le_refl _) (by rw [G13.2.1.2.1]; omega) G13.2.1.2.2.2 (by have := G13.1.2.2.2.1; omega) G13.1.2.2.1 (by rw [G13.2.2.2.1]; exact hG) (by rw [G13.2.2.2.1]; exact hF) ⟨by omega, by omega⟩ ⟨by omega, by omega⟩ (by rw [iv]; exact v2) (by rw [iv]; exact v3) (by rw [iv]; exact v4) (by rw [iv]; exact v5) (by rw [iv]; exact v6) ⟨by omega, by omega, by omega⟩ rfl rfl rfl (by omega) hr2
  have l3 : r3 % G < G := Nat.mod_lt _ (by omega)
  have l4 : r4 % F < F := Nat.mod_lt _ (by omega)
  have l5 : r5 % F < F := Nat.mod_lt _ (by omega)
  have hl := testL_53 (q := r2) (g := r3 % G) (a := r4 % F) (b := r5 % F) (n := r6) hr2 (by omega) (by omega) (by omega) (by omega)
  -- the end of the line
  have fin : ∀ M14, BS a x (c + 4 + 1 + 5 + 1 + 53) (L ++ sLs 86 ++ dgL r0 ++ sLs 87 ++ dgL r1 ++ testL r2 (r3 % G) (r4 % F) (r5 % F) r6) M14 → FRt M13 M14 → ∀ kc1 kn1, kc1 + 1 ≤ kc + 41 → kn1 + 2400 ≤ kn + 67303 → POr F G a x k c (kc + 41) (kn + 67303) L M (if (nI k - nI k / (3 : Int32) * (3 : Int32)) = 0 then b_L_shore_631 Z M14 kc1 kn1 (some a) (some x) (nI k) (some a) 88 else b_L_shore_631 Z M14 kc1 kn1 (some a) (some x) (nI k) (some a) 80) := fun M14 S14 F14 kc1 kn1 hk1 hn1 => by
    have hk3 : (nI k - nI k / (3 : Int32) * (3 : Int32) = 0) ↔ k % 3 = 0 := by
      have : ∀ k, k < 8 → ((nI k - nI k / (3 : Int32) * (3 : Int32) = 0) ↔ k % 3 = 0) := by decide
      exact this k (by omega)
    have fin2 : ∀ jj, jj < 94 → (sLs jj).length ≤ 2 → jj = (if k % 3 = 0 then 88 else 80) → POr F G a x k c (kc + 41) (kn + 67303) L M (b_L_shore_631 Z M14 kc1 kn1 (some a) (some x) (nI k) (some a) jj) := fun jj h1 h2 h3 => by
      unfold b_L_shore_631
      refine r_da S14 (p_ck ⟨by omega, by omega⟩ ?_)
      refine r_app S14 (e := 2) h1 h2 (by omega) (fun M15 S15 F15 => ?_)
      have FF := FRt_t E13 (FRt_t F14 F15)
      obtain ⟨G15, i15⟩ := GS_F G9 S15 FF
      refine ⟨M15, _, _, (r0, r1, r2, r3 % G, r4 % F, r5 % F, r6), w, by rw [nI_1], ⟨hr0, hr1, hr2, l3, l4, l5, hr6⟩, ?_, G15.2.2.2.1, by rw [← hw]; exact G15.2.2.1, ?_, G15.2.1, ?_, hk1, hn1⟩
      · unfold oT
        rw [← h3]
        simp only [List.append_assoc] at S15 ⊢
        exact ⟨S15.1, by have := S15.2.1; omega, S15.2.2⟩
      · obtain ⟨-, -, z3⟩ := FF.1 (x + 19) n19
        rw [(z3 (by rw [t19]; decide) (by rw [t19]; decide)).2]
        exact m19
      · rw [i15, iw]; exact v2
    by_cases c3 : k % 3 = 0
    · rw [if_pos (hk3.mpr c3)]; exact fin2 88 (by decide) (by decide) (by rw [if_pos c3])
    · rw [if_neg (fun z => c3 (hk3.mp z))]; exact fin2 80 (by decide) (by decide) (by rw [if_neg c3])
  by_cases hq0 : r2 = 0
  · obtain ⟨M14, e14, f14⟩ := TT.1 hq0
    rw [e14, bd_S]
    have S14 : BS a x _ _ M14 := BS_b G13.1 f14
    have F14 : FRt M13 M14 := ⟨fun c hc => ⟨(f14.1 c hc).1, (f14.1 c hc).2.1, fun _ _ => ⟨(f14.1 c hc).2.2.2.1, (f14.1 c hc).2.2.2.2⟩⟩, f14.2⟩
    refine r_da S14 (p_ck ⟨by omega, by omega⟩ ?_)
    refine r_const S14 hZ (j := 67) (q := 0) (by decide) (by decide) (by omega) (fun M15 S15 F15 => ?_)
    refine fin M15 ?_ (FRt_t F14 F15) _ _ (by omega) (by omega)
    have e0 : testL r2 (r3 % G) (r4 % F) (r5 % F) r6 = sLs 67 := by rw [hq0]; rfl
    rw [e0]
    exact ⟨S15.1, by have := S15.2.1; omega, S15.2.2⟩
  · obtain ⟨s, M14, e14, H14, h14, f14⟩ := TT.2 hq0
    rw [e14, bd_S]
    have F14 : FRt M13 M14 := ⟨fun c hc => ⟨(f14.1 c hc).1, (f14.1 c hc).2.1, fun _ _ => ⟨(f14.1 c hc).2.2.2.1, (f14.1 c hc).2.2.2.2⟩⟩, f14.2⟩
    refine r_da (BS_b G13.1 f14) (p_ck ⟨by omega, by omega⟩ ?_)
    refine r_made G13.1 hZ hx f14 H14 h14 hl (by omega) (fun M15 S15 F15 => ?_)
    exact fin M15 S15 (FRt_t F14 F15) _ _ (by omega) (by omega)
