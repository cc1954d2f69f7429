/-! ## Pure: all pacts -/
set_option maxRecDepth 100000 in
theorem p_726 {Z : Nat → Nat} {N a x u n w c kc kn F G p B : Nat} {sp : Option Nat} {L : List Nat} {M0 M : gMem} {y v : Int32} (hZ : ZHy Z B) (hx : B ≤ x) (hF : mI M0 x 1 = nI F) (hF1 : 1 ≤ F ∧ F ≤ 6) (hG1 : G ≤ 4) (hp : p < 4) (hn : 1 ≤ n ∧ n ≤ F) (hc : c + 72 ≤ 1199) (hq : kc + 35 ≤ 800 ∧ kn + 76824 ≤ 1200000) (H : GQ N (E2 x p) M0 a x u n w c L M) (hN : N = mN M0) (hv : v = sp0 sp) (hsp : ∀ g, sp = some g → g < G) : PPr F G a x p c (kc + 35) (kn + 76824) L M0 (b_L_shore_726 Z M kc kn (some a) (some x) (nI p) y (nI n) (some u) (some w) (some w) 0 v) := by
  unfold b_L_shore_726
  rw [dr_S]
  refine gq_w H (by decide) (fun M1 G1 i1 => p_ck ⟨by omega, by omega⟩ ?_)
  refine r_below (n := 5) rfl (by decide) (by decide) (fun r1 hr1 => ?_)
  rw [dr_S]
  refine gq_w G1 (by decide) (fun M2 G2 i2 => p_ck ⟨by omega, by omega⟩ ?_)
  refine r_below (n := 120) rfl (by decide) (by decide) (fun r2 hr2 => ?_)
  refine gq_w G2 (by decide) (fun M3 G3 i3 => p_ck ⟨by omega, by omega⟩ ?_)
  refine r_below (n := 30) rfl (by decide) (by decide) (fun r3 hr3 => ?_)
  refine gq_w G3 (by decide) (fun M4 G4 i4 => ?_)
  have v0 : mI M4 w 0 = sp0 sp := by rw [i4, i3, i2, i1, ← hv]; rfl
  have v1 : mI M4 w 1 = nI r1 := by rw [i4, i3, i2]; rfl
  have v2 : mI M4 w 2 = nI r2 := by rw [i4, i3]; rfl
  have v3 : mI M4 w 3 = nI r3 := by rw [i4]; rfl
  clear i1 i2 i3 i4 G1 G2 G3 H
  refine r_dx G4.1 ?_
  obtain ⟨-, -, -, rr6, -⟩ := G4.1.2.2.2.2.1
  obtain ⟨b1, b2⟩ := G4.1.2.2.2.2.2.2.2.2.1
  rw [rr6, dr_S, ck_t b1, ck_t (show inb (nI p) (mL M4 (x + 44)) by rw [b2]; exact (inbN (by omega)).mpr (by omega)), nI_clamp (by omega), lw_S]
  obtain ⟨g1, g2, g3, g4, g5, g6⟩ := G4
  have G5 : GQ N (E2 x p) M0 a x u n w c L (wR M4 (x + 44) p (some w)) := ⟨BS_R g1 b1 (by omega), g2, g3, FRo_t g4 (FRo_R ⟨.inl rfl, rfl⟩), g5, g6⟩
  have iw : mI (wR M4 (x + 44) p (some w)) w = mI M4 w := rfl
  generalize wR M4 (x + 44) p (some w) = M5 at G5 iw
  refine r_da G5.1 (p_ck ⟨by omega, by omega⟩ ?_)
  refine gq_app G5 (e := 6) (by decide) (by decide) (by omega) (fun M6 G6 u6 w6 F6 => ?_)
  refine r_da G6.1 (p_ck ⟨by omega, by omega⟩ ?_)
  refine gq_int G6 (y := p) (d := 1) rfl (by omega) (dgL_1 (by omega)) (by omega) (fun M7 G7 u7 w7 F7 => ?_)
  refine r_da G7.1 (p_ck ⟨by omega, by omega⟩ ?_)
  refine gq_app G7 (e := 4) (by decide) (by decide) (by omega) (fun M8 G8 u8 w8 F8 => ?_)
  have iw8 : mI M8 w = mI M4 w := by rw [w8, w7, w6, iw]
  obtain ⟨M9, kc9, kn9, z1, z2, z3, z4, z5, z6, z7, z8, z9⟩ := m_all (Z := Z) (kc := kc + 0 + 0 + 0 + 1 + 1 + 1) (kn := kn + 0 + 0 + 0 + 2400 + 2400 + 2400) (y := y) (sp := sp) (q := r1) (nn := r2) (mm := r3) hZ hx hF hF1 hG1 hp rfl hn (by omega) ⟨by omega, by omega⟩ G8 (by rw [iw8]; exact v0) hsp (by rw [iw8]; exact v1) hr1 (by rw [iw8]; exact v2) hr2 (by rw [iw8]; exact v3) hr3
  have hbF : blw (y >>> ((4 : Int32) &&& 31)) F < F := (l_below (M := M) (v := y >>> ((4 : Int32) &&& 31)) (n := F) (by omega) (by omega)).2
  refine ⟨M9, kc9, kn9, (sp, blw (y >>> ((4 : Int32) &&& 31)) F, n, r1, r2, r3), u, z1, ⟨hsp, hbF, hn, hr1, hr2, hr3⟩, ?_, z3, by rw [← hN]; exact z4, z5, z6, z7, by omega, by omega⟩
  have ep : pT p F (sp, blw (y >>> ((4 : Int32) &&& 31)) F, n, r1, r2, r3) = sLs 89 ++ dgL p ++ sLs 90 ++ memT (blw (y >>> ((4 : Int32) &&& 31)) F) F n ++ pEnd r1 r2 r3 (blw (y >>> ((4 : Int32) &&& 31)) F) sp := rfl
  rw [ep]
  simp only [List.append_assoc] at z2 ⊢
  exact ⟨z2.1, by have := z2.2.1; omega, z2.2.2⟩
set_option maxRecDepth 100000 in
theorem p_step {Z : Nat → Nat} {a x c kc kn F G n p B : Nat} {L : List Nat} {M : gMem} (S : BS a x c L M) (hZ : ZHy Z B) (hx : B ≤ x) (hG : mI M x 0 = nI G) (hF : mI M x 1 = nI F) (h8 : mI M x 8 = nI n) (hn : n < 4) (hp : p < n) (hG1 : 1 ≤ G ∧ G ≤ 4) (hF1 : 1 ≤ F ∧ F ≤ 6) (hc : c + 72 ≤ 1199) (hq : kc + 37 ≤ 800 ∧ kn + 76836 ≤ 1200000) : PPr F G a x p c (kc + 37) (kn + 76836) L M (bb_L_shore_657 Z M kc kn (some a) (some x) (nI p)) := by
  unfold bb_L_shore_657
  refine r_dx S ?_
  rw [h8, if_neg (fun z => by have := (nI_leI (by omega) (by omega)).mp z; omega)]
  refine p_ck ⟨by omega, by omega⟩ ?_
  refine r_cell (k := 12 + p) (nI_add 12 p) (by omega) hZ.1 ?_
  rw [ck_t S.2.2.1]
  refine p_ck ⟨by omega, by omega⟩ ?_
  generalize clZ Z (12 + p) = y
  refine r_below hF (by omega) (by omega) (fun r hr => ?_)
  rw [show (1 : Int32) + nI r = nI (1 + r) from nI_add 1 r, ck_t (show ¬ nI (1 + r) < 0 from fun z => by have := (nI_ltI (a := 1 + r) (b := 0) (by omega) (by decide)).mp z; omega), nI_clamp (by omega), ck_t (show 1 + r ≤ 8 by omega)]
  refine p_ck ⟨by omega, by omega⟩ ?_
  rw [lw_S]
  refine p_ck ⟨by omega, by omega⟩ ?_
  rw [lw_S, show ((4 : Int32)).toNatClampNeg = 4 from rfl]
  have hxN := S.2.2.2.1
  have S1 : BS a x c L (nW M 20 (1 + r)) := BS_n S
  have O1 : OW x (mN M) (1 + r) (nW M 20 (1 + r)) := OW_n S
  have F1 : FRt M (nW M 20 (1 + r)) := ⟨fun d hd => by
    obtain ⟨z1, z2, z3, z4, z5⟩ := SM5_n (M := M) (t := 20) (n := 1 + r) (c := d) (by omega)
    exact ⟨z1, z2, fun _ _ => ⟨z3, z4⟩⟩, Nat.le_succ _⟩
  have n1 : mN (nW M 20 (1 + r)) = mN M + 1 := rfl
  generalize nW M 20 (1 + r) = M1 at S1 O1 F1 n1
  have S2 : BS a x c L (nW M1 20 4) := BS_n S1
  have O2 : OW x (mN M1) 4 (nW M1 20 4) := OW_n S1
  have F2 : FRt M1 (nW M1 20 4) := ⟨fun d hd => by
    obtain ⟨z1, z2, z3, z4, z5⟩ := SM5_n (M := M1) (t := 20) (n := 4) (c := d) (by omega)
    exact ⟨z1, z2, fun _ _ => ⟨z3, z4⟩⟩, Nat.le_succ _⟩
  generalize nW M1 20 4 = M2 at S2 O2 F2
  have O1' := (OW_f O1 F2).1
  have H : GQ (mN M) (E2 x p) M a x (mN M) (1 + r) (mN M1) c L M2 := ⟨S2, O1', O2, FRo_F (FRt_t F1 F2) (Nat.le_refl _), (FRt_x S1 F2).trans (FRt_x S F1), Nat.le_refl _, by omega, by omega⟩
  refine p_ck ⟨by omega, by omega⟩ ?_
  refine r_below (n := 2) rfl (by decide) (by decide) (fun s hs => ?_)
  have fin : ∀ v sp kc1 kn1, kc1 = kc + 2 → kn1 = kn + (8 + 4) → v = sp0 sp → (∀ g, sp = some g → g < G) → PPr F G a x p c (kc + 37) (kn + 76836) L M (b_L_shore_726 Z M2 kc1 kn1 (some a) (some x) (nI p) y (nI (1 + r)) (some (mN M)) (some (mN M1)) (some (mN M1)) 0 v) := fun v sp kc1 kn1 e1 e2 hv hsp => by
    have := p_726 (Z := Z) (kc := kc1) (kn := kn1) (y := y) hZ hx hF hF1 hG1.2 (by omega) (n := 1 + r) ⟨by omega, by omega⟩ hc ⟨by omega, by omega⟩ H rfl hv hsp
    rw [e1, e2] at this ⊢
    obtain ⟨M', kc', kn', y', w', t1, t2, t3, t4, t5, t6, t7, t8, t9, t10⟩ := this
    exact ⟨M', kc', kn', y', w', t1, t2, t3, t4, t5, t6, t7, t8, by omega, by omega⟩
  by_cases c0 : nI s = 0
  · rw [if_pos c0]
    exact fin (-1) none _ _ (by omega) (by omega) rfl (fun g h => by cases h)
  · rw [if_neg c0, ck_t S2.2.2.1]
    refine p_ck ⟨by omega, by omega⟩ ?_
    refine r_below (n := G) (by rw [H.2.2.2.2.1]; exact hG) (by omega) (by omega) (fun g hg => ?_)
    exact fin (nI g) (some g) _ _ (by omega) (by omega) rfl (fun g' h => by cases h; exact hg)
