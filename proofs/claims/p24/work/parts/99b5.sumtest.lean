/-! ## Pure: the law's sum and test as texts (written by gen93.py) -/
def sumL (q g n m f : Nat) : List Nat := if q = 0 then [] ++ sLs 67 ++ dgL n else if q = 1 then [] ++ sLs 68 ++ dgL g ++ sLs 69 ++ dgL (n % 30) else if q = 2 then [] ++ sLs 70 ++ dgL n ++ sLs 71 ++ dgL m ++ sLs 72 else if q = 3 then [] ++ dgL n ++ sLs 73 ++ dgL f else [] ++ sLs 74 ++ dgL n ++ sLs 75
def testL (q g a b n : Nat) : List Nat := if q = 1 then [] ++ sLs 47 ++ (sLs 45 ++ dgL g) ++ sLs 48 ++ dgL n else if q = 2 then [] ++ sLs 49 ++ (sLs 45 ++ dgL g) ++ sLs 50 ++ dgL (n % 4) ++ sLs 51 ++ dgL (n % 7) else if q = 3 then [] ++ sLs 52 ++ (sLs 46 ++ dgL a) else if q = 4 then [] ++ sLs 53 ++ (sLs 46 ++ dgL a) ++ sLs 50 ++ dgL n ++ sLs 54 ++ (sLs 46 ++ dgL b) ++ sLs 55 else if q = 5 then [] ++ sLs 56 ++ (sLs 46 ++ dgL a) ++ sLs 57 ++ dgL (n % 5) ++ sLs 58 else if q = 6 then [] ++ sLs 59 ++ (sLs 46 ++ dgL a) ++ sLs 60 ++ (sLs 46 ++ dgL b) ++ sLs 61 ++ dgL n ++ sLs 62 else if q = 7 then [] ++ sLs 63 ++ (sLs 46 ++ dgL a) ++ sLs 64 ++ (sLs 45 ++ dgL g) ++ sLs 65 ++ (sLs 45 ++ dgL g) ++ sLs 66 ++ dgL (n % 20) ++ sLs 54 ++ (sLs 46 ++ dgL b) ++ sLs 66 ++ dgL (n % 9) else sLs 44
set_option maxRecDepth 20000 in
theorem sum_0 {Z : Nat → Nat} {M : gMem} {w n g m f : Nat} (hT : mT M w = 20) (hL : 4 ≤ mL M w) (hLm : mL M w ≤ 1000) (hw : w < mN M) (h1 : mI M w 1 = nI 0) (h2 : mI M w 2 = nI n) (hn : n < 1000) (hg : g < 1000) (hm : m < 1000) (hf : f < 1000) : QSt (mN M) M (sumL 0 g n m f) (f_L_sum Z M (some w) (nI f)) := by
  have ib : ∀ j, j < 4 → inb (nI j) (mL M w) := fun j hj => (inbN (by omega)).mpr (by omega)
  unfold f_L_sum b_L_sum_0
  simp only [show ((0 : Int32)).toNatClampNeg = 0 from rfl, show ((1 : Int32)).toNatClampNeg = 1 from rfl, show ((2 : Int32)).toNatClampNeg = 2 from rfl, show ((3 : Int32)).toNatClampNeg = 3 from rfl, show ((4 : Int32)).toNatClampNeg = 4 from rfl, show ((5 : Int32)).toNatClampNeg = 5 from rfl, show ((6 : Int32)).toNatClampNeg = 6 from rfl]
  refine p_dr (p_ck hT (p_ck (ib 2 (by decide)) (p_ck (ib 1 (by decide)) ?_)))
  refine p_if_t (by rw [h1]; rfl) ?_
  refine p_new (fun M1 S1 F1 => ?_)
  have G1_M : FRb (mN M) M M1 := F1
  refine p_ck (SBb_t S1.1).1 ?_
  refine p_app S1 (j := 67) (by decide) (by decide) (fun M2 S2 F2 => ?_)
  have G2_M : FRb (mN M) M M2 := FRb_tr G1_M F2
  refine p_dc S2 ?_
  refine p_inte S2 (x := n) h2 hn (by decide) (fun M3 S3 F3 => ?_)
  have G3_M : FRb (mN M) M M3 := FRb_tr G2_M F3
  refine p_dc S3 ?_
  refine p_str S3 (fun M4 H4 F4 N4 => ?_)
  exact ⟨_, _, rfl, by show STR _ _ ([] ++ sLs 67 ++ dgL n) _; exact H4, (G3_M).2, FRb_tr G3_M (FRb_lo F4 (Nat.le_refl _))⟩
set_option maxRecDepth 20000 in
theorem sum_1 {Z : Nat → Nat} {M : gMem} {w n g m f : Nat} (hT : mT M w = 20) (hL : 4 ≤ mL M w) (hLm : mL M w ≤ 1000) (hw : w < mN M) (h1 : mI M w 1 = nI 1) (h2 : mI M w 2 = nI n) (h0 : mI M w 0 = nI g) (hn : n < 1000) (hg : g < 1000) (hm : m < 1000) (hf : f < 1000) : QSt (mN M) M (sumL 1 g n m f) (f_L_sum Z M (some w) (nI f)) := by
  have ib : ∀ j, j < 4 → inb (nI j) (mL M w) := fun j hj => (inbN (by omega)).mpr (by omega)
  unfold f_L_sum b_L_sum_0
  simp only [show ((0 : Int32)).toNatClampNeg = 0 from rfl, show ((1 : Int32)).toNatClampNeg = 1 from rfl, show ((2 : Int32)).toNatClampNeg = 2 from rfl, show ((3 : Int32)).toNatClampNeg = 3 from rfl, show ((4 : Int32)).toNatClampNeg = 4 from rfl, show ((5 : Int32)).toNatClampNeg = 5 from rfl, show ((6 : Int32)).toNatClampNeg = 6 from rfl]
  refine p_dr (p_ck hT (p_ck (ib 2 (by decide)) (p_ck (ib 1 (by decide)) ?_)))
  refine p_if_f (by rw [h1]; decide) ?_
  refine p_if_t (by rw [h1]; rfl) ?_
  refine p_new (fun M1 S1 F1 => ?_)
  have G1_M : FRb (mN M) M M1 := F1
  refine p_ck (SBb_t S1.1).1 ?_
  refine p_app S1 (j := 68) (by decide) (by decide) (fun M2 S2 F2 => ?_)
  have G2_M : FRb (mN M) M M2 := FRb_tr G1_M F2
  refine p_ck ((row_b G2_M hw).1.trans hT) (p_ck (by rw [(row_b G2_M hw).2.1]; exact ib 0 (by decide)) ?_)
  refine p_dc S2 ?_
  refine p_inte S2 (x := g) (by rw [(row_b G2_M hw).2.2.1]; exact h0) hg (by decide) (fun M3 S3 F3 => ?_)
  have G3_M : FRb (mN M) M M3 := FRb_tr G2_M F3
  refine p_dc S3 ?_
  refine p_app S3 (j := 69) (by decide) (by decide) (fun M4 S4 F4 => ?_)
  have G4_M : FRb (mN M) M M4 := FRb_tr G3_M F4
  refine p_dc S4 ?_
  refine p_inte S4 (x := n % 30) (rem_n h2 rfl (by omega) (by decide)) (by omega) (by decide) (fun M5 S5 F5 => ?_)
  have G5_M : FRb (mN M) M M5 := FRb_tr G4_M F5
  refine p_dc S5 ?_
  refine p_str S5 (fun M6 H6 F6 N6 => ?_)
  exact ⟨_, _, rfl, by show STR _ _ ([] ++ sLs 68 ++ dgL g ++ sLs 69 ++ dgL (n % 30)) _; exact H6, (G5_M).2, FRb_tr G5_M (FRb_lo F6 (Nat.le_refl _))⟩
set_option maxRecDepth 20000 in
theorem sum_2 {Z : Nat → Nat} {M : gMem} {w n g m f : Nat} (hT : mT M w = 20) (hL : 4 ≤ mL M w) (hLm : mL M w ≤ 1000) (hw : w < mN M) (h1 : mI M w 1 = nI 2) (h2 : mI M w 2 = nI n) (h3 : mI M w 3 = nI m) (hn : n < 1000) (hg : g < 1000) (hm : m < 1000) (hf : f < 1000) : QSt (mN M) M (sumL 2 g n m f) (f_L_sum Z M (some w) (nI f)) := by
  have ib : ∀ j, j < 4 → inb (nI j) (mL M w) := fun j hj => (inbN (by omega)).mpr (by omega)
  unfold f_L_sum b_L_sum_0
  simp only [show ((0 : Int32)).toNatClampNeg = 0 from rfl, show ((1 : Int32)).toNatClampNeg = 1 from rfl, show ((2 : Int32)).toNatClampNeg = 2 from rfl, show ((3 : Int32)).toNatClampNeg = 3 from rfl, show ((4 : Int32)).toNatClampNeg = 4 from rfl, show ((5 : Int32)).toNatClampNeg = 5 from rfl, show ((6 : Int32)).toNatClampNeg = 6 from rfl]
  refine p_dr (p_ck hT (p_ck (ib 2 (by decide)) (p_ck (ib 1 (by decide)) ?_)))
  refine p_if_f (by rw [h1]; decide) ?_
  refine p_if_f (by rw [h1]; decide) ?_
  refine p_if_t (by rw [h1]; rfl) ?_
  refine p_new (fun M1 S1 F1 => ?_)
  have G1_M : FRb (mN M) M M1 := F1
  refine p_ck (SBb_t S1.1).1 ?_
  refine p_app S1 (j := 70) (by decide) (by decide) (fun M2 S2 F2 => ?_)
  have G2_M : FRb (mN M) M M2 := FRb_tr G1_M F2
  refine p_dc S2 ?_
  refine p_inte S2 (x := n) h2 hn (by decide) (fun M3 S3 F3 => ?_)
  have G3_M : FRb (mN M) M M3 := FRb_tr G2_M F3
  refine p_dc S3 ?_
  refine p_app S3 (j := 71) (by decide) (by decide) (fun M4 S4 F4 => ?_)
  have G4_M : FRb (mN M) M M4 := FRb_tr G3_M F4
  refine p_ck ((row_b G4_M hw).1.trans hT) (p_ck (by rw [(row_b G4_M hw).2.1]; exact ib 3 (by decide)) ?_)
  refine p_dc S4 ?_
  refine p_inte S4 (x := m) (by rw [(row_b G4_M hw).2.2.1]; exact h3) hm (by decide) (fun M5 S5 F5 => ?_)
  have G5_M : FRb (mN M) M M5 := FRb_tr G4_M F5
  refine p_dc S5 ?_
  refine p_app S5 (j := 72) (by decide) (by decide) (fun M6 S6 F6 => ?_)
  have G6_M : FRb (mN M) M M6 := FRb_tr G5_M F6
  refine p_dc S6 ?_
  refine p_str S6 (fun M7 H7 F7 N7 => ?_)
  exact ⟨_, _, rfl, by show STR _ _ ([] ++ sLs 70 ++ dgL n ++ sLs 71 ++ dgL m ++ sLs 72) _; exact H7, (G6_M).2, FRb_tr G6_M (FRb_lo F7 (Nat.le_refl _))⟩
set_option maxRecDepth 20000 in
theorem sum_3 {Z : Nat → Nat} {M : gMem} {w n g m f : Nat} (hT : mT M w = 20) (hL : 4 ≤ mL M w) (hLm : mL M w ≤ 1000) (hw : w < mN M) (h1 : mI M w 1 = nI 3) (h2 : mI M w 2 = nI n) (hn : n < 1000) (hg : g < 1000) (hm : m < 1000) (hf : f < 1000) : QSt (mN M) M (sumL 3 g n m f) (f_L_sum Z M (some w) (nI f)) := by
  have ib : ∀ j, j < 4 → inb (nI j) (mL M w) := fun j hj => (inbN (by omega)).mpr (by omega)
  unfold f_L_sum b_L_sum_0
  simp only [show ((0 : Int32)).toNatClampNeg = 0 from rfl, show ((1 : Int32)).toNatClampNeg = 1 from rfl, show ((2 : Int32)).toNatClampNeg = 2 from rfl, show ((3 : Int32)).toNatClampNeg = 3 from rfl, show ((4 : Int32)).toNatClampNeg = 4 from rfl, show ((5 : Int32)).toNatClampNeg = 5 from rfl, show ((6 : Int32)).toNatClampNeg = 6 from rfl]
  refine p_dr (p_ck hT (p_ck (ib 2 (by decide)) (p_ck (ib 1 (by decide)) ?_)))
  refine p_if_f (by rw [h1]; decide) ?_
  refine p_if_f (by rw [h1]; decide) ?_
  refine p_if_f (by rw [h1]; decide) ?_
  refine p_if_t (by rw [h1]; rfl) ?_
  refine p_new (fun M1 S1 F1 => ?_)
  have G1_M : FRb (mN M) M M1 := F1
  refine p_ck (SBb_t S1.1).1 ?_
  refine p_inte S1 (x := n) h2 hn (by decide) (fun M2 S2 F2 => ?_)
  have G2_M : FRb (mN M) M M2 := FRb_tr G1_M F2
  refine p_dc S2 ?_
  refine p_app S2 (j := 73) (by decide) (by decide) (fun M3 S3 F3 => ?_)
  have G3_M : FRb (mN M) M M3 := FRb_tr G2_M F3
  refine p_dc S3 ?_
  refine p_inte S3 (x := f) rfl hf (by decide) (fun M4 S4 F4 => ?_)
  have G4_M : FRb (mN M) M M4 := FRb_tr G3_M F4
  refine p_dc S4 ?_
  refine p_str S4 (fun M5 H5 F5 N5 => ?_)
  exact ⟨_, _, rfl, by show STR _ _ ([] ++ dgL n ++ sLs 73 ++ dgL f) _; exact H5, (G4_M).2, FRb_tr G4_M (FRb_lo F5 (Nat.le_refl _))⟩
set_option maxRecDepth 20000 in
theorem sum_4 {Z : Nat → Nat} {M : gMem} {w n g m f : Nat} (hT : mT M w = 20) (hL : 4 ≤ mL M w) (hLm : mL M w ≤ 1000) (hw : w < mN M) (h1 : mI M w 1 = nI 4) (h2 : mI M w 2 = nI n) (hn : n < 1000) (hg : g < 1000) (hm : m < 1000) (hf : f < 1000) : QSt (mN M) M (sumL 4 g n m f) (f_L_sum Z M (some w) (nI f)) := by
  have ib : ∀ j, j < 4 → inb (nI j) (mL M w) := fun j hj => (inbN (by omega)).mpr (by omega)
  unfold f_L_sum b_L_sum_0
  simp only [show ((0 : Int32)).toNatClampNeg = 0 from rfl, show ((1 : Int32)).toNatClampNeg = 1 from rfl, show ((2 : Int32)).toNatClampNeg = 2 from rfl, show ((3 : Int32)).toNatClampNeg = 3 from rfl, show ((4 : Int32)).toNatClampNeg = 4 from rfl, show ((5 : Int32)).toNatClampNeg = 5 from rfl, show ((6 : Int32)).toNatClampNeg = 6 from rfl]
  refine p_dr (p_ck hT (p_ck (ib 2 (by decide)) (p_ck (ib 1 (by decide)) ?_)))
  refine p_if_f (by rw [h1]; decide) ?_
  refine p_if_f (by rw [h1]; decide) ?_
  refine p_if_f (by rw [h1]; decide) ?_
  refine p_if_f (by rw [h1]; decide) ?_
  refine p_new (fun M1 S1 F1 => ?_)
  have G1_M : FRb (mN M) M M1 := F1
  refine p_ck (SBb_t S1.1).1 ?_
  refine p_app S1 (j := 74) (by decide) (by decide) (fun M2 S2 F2 => ?_)
  have G2_M : FRb (mN M) M M2 := FRb_tr G1_M F2
  refine p_dc S2 ?_
  refine p_inte S2 (x := n) h2 hn (by decide) (fun M3 S3 F3 => ?_)
  have G3_M : FRb (mN M) M M3 := FRb_tr G2_M F3
  refine p_dc S3 ?_
  refine p_app S3 (j := 75) (by decide) (by decide) (fun M4 S4 F4 => ?_)
  have G4_M : FRb (mN M) M M4 := FRb_tr G3_M F4
  refine p_dc S4 ?_
  refine p_str S4 (fun M5 H5 F5 N5 => ?_)
  exact ⟨_, _, rfl, by show STR _ _ ([] ++ sLs 74 ++ dgL n ++ sLs 75) _; exact H5, (G4_M).2, FRb_tr G4_M (FRb_lo F5 (Nat.le_refl _))⟩
/-- a String comes out, or (q = 0) the empty constant -/
def QT (Z : Nat → Nat) (q N : Nat) (M : gMem) (L : List Nat) (x : Option (Option Nat × gMem)) : Prop := (q = 0 → ∃ M', x = some (some (Z (100 + 67)), M') ∧ FRb N M M') ∧ (q ≠ 0 → QSt N M L x)
set_option maxRecDepth 20000 in
theorem test_abg {Z : Nat → Nat} {M : gMem} {w x g a b n q gr fi o3 o4 o5 : Nat} (hT : mT M w = 20) (hL : 7 ≤ mL M w) (hLm : mL M w ≤ 1000) (hw : w < mN M) (hx : x < mN M) (hX : mT M x = 11) (hg0 : mI M x 0 = nI gr) (hf0 : mI M x 1 = nI fi) (hgr : 0 < gr ∧ gr < 1000) (hfi : 0 < fi ∧ fi < 1000)
    (h2 : mI M w 2 = nI q) (h3 : mI M w 3 = nI o3) (h4 : mI M w 4 = nI o4) (h5 : mI M w 5 = nI o5) (h6 : mI M w 6 = nI n) (ho : o3 < 1000 ∧ o4 < 1000 ∧ o5 < 1000) (hg : g = o3 % gr) (ha : a = o4 % fi) (hb : b = o5 % fi) (hn : n < 1000) (hq : q < 8) : QT Z q (mN M) M (testL q g a b n) (f_L_test Z M (some w) (some x)) := by
  obtain ⟨o3h, o4h, o5h⟩ := ho
  obtain ⟨gr0, gr1⟩ := hgr
  obtain ⟨fi0, fi1⟩ := hfi
  have ib : ∀ j, j < 7 → inb (nI j) (mL M w) := fun j hj => (inbN (by omega)).mpr (by omega)
  have gne : ¬ nI gr = 0 := fun e => by have := (nI_eq (a := gr) (b := 0) (by omega) (by omega)).mp e; omega
  have fne : ¬ nI fi = 0 := fun e => by have := (nI_eq (a := fi) (b := 0) (by omega) (by omega)).mp e; omega
  have hg1 : g < 1000 := by rw [hg]; exact Nat.lt_of_lt_of_le (Nat.mod_lt _ gr0) (by omega)
  have ha1 : a < 1000 := by rw [ha]; exact Nat.lt_of_lt_of_le (Nat.mod_lt _ fi0) (by omega)
  have hb1 : b < 1000 := by rw [hb]; exact Nat.lt_of_lt_of_le (Nat.mod_lt _ fi0) (by omega)
  unfold f_L_test b_L_test_0
  simp only [show ((0 : Int32)).toNatClampNeg = 0 from rfl, show ((1 : Int32)).toNatClampNeg = 1 from rfl, show ((2 : Int32)).toNatClampNeg = 2 from rfl, show ((3 : Int32)).toNatClampNeg = 3 from rfl, show ((4 : Int32)).toNatClampNeg = 4 from rfl, show ((5 : Int32)).toNatClampNeg = 5 from rfl, show ((6 : Int32)).toNatClampNeg = 6 from rfl]
  refine p_new (fun M1 S1 F1 => ?_)
  have G1_M : FRb (mN M) M M1 := F1
  refine p_ck (SBb_t S1.1).1 ?_
  refine p_app S1 (j := 45) (by decide) (by decide) (fun M2 S2 F2 => ?_)
  have G2_M : FRb (mN M) M M2 := FRb_tr G1_M F2
  refine p_dr (p_ck ((row_b G2_M hw).1.trans hT) (p_ck (by rw [(row_b G2_M hw).2.1]; exact ib 3 (by decide)) (p_dr (p_ck ((row_b G2_M hx).1.trans hX) (p_ck (by rw [(row_b G2_M hx).2.2.1, hg0]; exact gne) (p_dc S2 ?_))))))
  refine p_inte S2 (x := g) (by rw [hg]; exact rem_n (by rw [(row_b G2_M hw).2.2.1]; exact h3) (by rw [(row_b G2_M hx).2.2.1]; exact hg0) (by omega) (by omega)) hg1 (by decide) (fun M3 S3 F3 => ?_)
  have G3_M : FRb (mN M) M M3 := FRb_tr G2_M F3
  refine p_dc S3 ?_
  refine p_str S3 (fun M4 H4 F4 N4 => ?_)
  have G4_M : FRb (mN M) M M4 := FRb_tr G3_M (FRb_lo F4 (Nat.le_refl _))
  refine p_new (fun M5 S5 F5 => ?_)
  have G5_M : FRb (mN M) M M5 := FRb_tr G4_M (FRb_lo F5 (G4_M).2)
  have G5_M4 : FRb (mN M4) M4 M5 := F5
  refine p_ck (SBb_t S5.1).1 ?_
  refine p_app S5 (j := 46) (by decide) (by decide) (fun M6 S6 F6 => ?_)
  have G6_M : FRb (mN M) M M6 := FRb_tr G5_M (FRb_lo F6 (G4_M).2)
  have G6_M4 : FRb (mN M4) M4 M6 := FRb_tr G5_M4 F6
  refine p_ck ((row_b G6_M hw).1.trans hT) (p_ck (by rw [(row_b G6_M hw).2.1]; exact ib 4 (by decide)) (p_ck ((row_b G6_M hx).1.trans hX) (p_ck (by rw [(row_b G6_M hx).2.2.1, hf0]; exact fne) (p_dc S6 ?_))))
  refine p_inte S6 (x := a) (by rw [ha]; exact rem_n (by rw [(row_b G6_M hw).2.2.1]; exact h4) (by rw [(row_b G6_M hx).2.2.1]; exact hf0) (by omega) (by omega)) ha1 (by decide) (fun M7 S7 F7 => ?_)
  have G7_M : FRb (mN M) M M7 := FRb_tr G6_M (FRb_lo F7 (G4_M).2)
  have G7_M4 : FRb (mN M4) M4 M7 := FRb_tr G6_M4 F7
  refine p_dc S7 ?_
  refine p_str S7 (fun M8 H8 F8 N8 => ?_)
  have G8_M : FRb (mN M) M M8 := FRb_tr G7_M (FRb_lo F8 (G4_M).2)
  have G8_M4 : FRb (mN M4) M4 M8 := FRb_tr G7_M4 (FRb_lo F8 (Nat.le_refl _))
  refine p_new (fun M9 S9 F9 => ?_)
  have G9_M : FRb (mN M) M M9 := FRb_tr G8_M (FRb_lo F9 (G8_M).2)
  have G9_M4 : FRb (mN M4) M4 M9 := FRb_tr G8_M4 (FRb_lo F9 (G8_M4).2)
  have G9_M8 : FRb (mN M8) M8 M9 := F9
  refine p_ck (SBb_t S9.1).1 ?_
  refine p_app S9 (j := 46) (by decide) (by decide) (fun M10 S10 F10 => ?_)
  have G10_M : FRb (mN M) M M10 := FRb_tr G9_M (FRb_lo F10 (G8_M).2)
  have G10_M4 : FRb (mN M4) M4 M10 := FRb_tr G9_M4 (FRb_lo F10 (G8_M4).2)
  have G10_M8 : FRb (mN M8) M8 M10 := FRb_tr G9_M8 F10
  refine p_ck ((row_b G10_M hw).1.trans hT) (p_ck (by rw [(row_b G10_M hw).2.1]; exact ib 5 (by decide)) (p_ck ((row_b G10_M hx).1.trans hX) (p_ck (by rw [(row_b G10_M hx).2.2.1, hf0]; exact fne) (p_dc S10 ?_))))
  refine p_inte S10 (x := b) (by rw [hb]; exact rem_n (by rw [(row_b G10_M hw).2.2.1]; exact h5) (by rw [(row_b G10_M hx).2.2.1]; exact hf0) (by omega) (by omega)) hb1 (by decide) (fun M11 S11 F11 => ?_)
  have G11_M : FRb (mN M) M M11 := FRb_tr G10_M (FRb_lo F11 (G8_M).2)
  have G11_M4 : FRb (mN M4) M4 M11 := FRb_tr G10_M4 (FRb_lo F11 (G8_M4).2)
  have G11_M8 : FRb (mN M8) M8 M11 := FRb_tr G10_M8 F11
  refine p_dc S11 ?_
  refine p_str S11 (fun M12 H12 F12 N12 => ?_)
  have G12_M : FRb (mN M) M M12 := FRb_tr G11_M (FRb_lo F12 (G8_M).2)
  have G12_M4 : FRb (mN M4) M4 M12 := FRb_tr G11_M4 (FRb_lo F12 (G8_M4).2)
  have G12_M8 : FRb (mN M8) M8 M12 := FRb_tr G11_M8 (FRb_lo F12 (Nat.le_refl _))
  have r42 := row_b G12_M hw
  refine p_ck (r42.1.trans hT) (p_ck (by rw [r42.2.1]; exact ib 6 (by decide)) (p_ck (by rw [r42.2.1]; exact ib 2 (by decide)) ?_))
  have k2 : mI M12 w 2 = nI q := by rw [r42.2.2.1]; exact h2
  have k6 : mI M12 w 6 = nI n := by rw [r42.2.2.1]; exact h6
  have qne : ∀ j, j < 8 → q ≠ j → ¬ mI M12 w 2 = nI j := fun j hj h e => h ((nI_eq (by omega) (by omega)).mp (k2.symm.trans e))
  by_cases q1 : q = 1
  · refine p_if_t (by rw [k2, q1]; rfl) ?_
    refine p_new (fun M93 S93 F93 => ?_)
    have G93_M : FRb (mN M) M M93 := FRb_tr G12_M (FRb_lo F93 (G12_M).2)
    have G93_M4 : FRb (mN M4) M4 M93 := FRb_tr G12_M4 (FRb_lo F93 (G12_M4).2)
    have G93_M8 : FRb (mN M8) M8 M93 := FRb_tr G12_M8 (FRb_lo F93 (G12_M8).2)
    have G93_M12 : FRb (mN M12) M12 M93 := F93
    refine p_ck (SBb_t S93.1).1 ?_
    refine p_app S93 (j := 47) (by decide) (by decide) (fun M94 S94 F94 => ?_)
    have G94_M : FRb (mN M) M M94 := FRb_tr G93_M (FRb_lo F94 (G12_M).2)
    have G94_M4 : FRb (mN M4) M4 M94 := FRb_tr G93_M4 (FRb_lo F94 (G12_M4).2)
    have G94_M8 : FRb (mN M8) M8 M94 := FRb_tr G93_M8 (FRb_lo F94 (G12_M8).2)
    have G94_M12 : FRb (mN M12) M12 M94 := FRb_tr G93_M12 F94
    refine p_dc S94 ?_
    refine p_apr S94 (Q := sLs 45 ++ dgL g) (q := 26) (STR_b H4 G94_M4 (by omega)) (by have := (G12_M4).2; omega) (by rw [List.length_append]; have := sLs_23 (j := 45) (by decide); have := dgL_3 g; omega) (by decide) (fun M95 S95 F95 => ?_)
    have G95_M : FRb (mN M) M M95 := FRb_tr G94_M (FRb_lo F95 (G12_M).2)
    have G95_M4 : FRb (mN M4) M4 M95 := FRb_tr G94_M4 (FRb_lo F95 (G12_M4).2)
    have G95_M8 : FRb (mN M8) M8 M95 := FRb_tr G94_M8 (FRb_lo F95 (G12_M8).2)
    have G95_M12 : FRb (mN M12) M12 M95 := FRb_tr G94_M12 F95
    refine p_dc S95 ?_
    refine p_app S95 (j := 48) (by decide) (by decide) (fun M96 S96 F96 => ?_)
    have G96_M : FRb (mN M) M M96 := FRb_tr G95_M (FRb_lo F96 (G12_M).2)
    have G96_M4 : FRb (mN M4) M4 M96 := FRb_tr G95_M4 (FRb_lo F96 (G12_M4).2)
    have G96_M8 : FRb (mN M8) M8 M96 := FRb_tr G95_M8 (FRb_lo F96 (G12_M8).2)
    have G96_M12 : FRb (mN M12) M12 M96 := FRb_tr G95_M12 F96
    refine p_dc S96 ?_
    refine p_inte S96 (x := n) k6 hn (by decide) (fun M97 S97 F97 => ?_)
    have G97_M : FRb (mN M) M M97 := FRb_tr G96_M (FRb_lo F97 (G12_M).2)
    have G97_M4 : FRb (mN M4) M4 M97 := FRb_tr G96_M4 (FRb_lo F97 (G12_M4).2)
    have G97_M8 : FRb (mN M8) M8 M97 := FRb_tr G96_M8 (FRb_lo F97 (G12_M8).2)
    have G97_M12 : FRb (mN M12) M12 M97 := FRb_tr G96_M12 F97
    refine p_dc S97 ?_
    refine p_str S97 (fun M98 H98 F98 N98 => ?_)
    exact ⟨fun h => absurd h (by omega), fun _ => ⟨_, _, rfl, by rw [q1]; show STR _ _ ([] ++ sLs 47 ++ (sLs 45 ++ dgL g) ++ sLs 48 ++ dgL n) _; exact H98, (G97_M).2, FRb_tr G97_M (FRb_lo F98 (G12_M).2)⟩⟩
  refine p_if_f (qne 1 (by decide) q1) ?_
  by_cases q2 : q = 2
  · refine p_if_t (by rw [k2, q2]; rfl) ?_
    refine p_new (fun M133 S133 F133 => ?_)
    have G133_M : FRb (mN M) M M133 := FRb_tr G12_M (FRb_lo F133 (G12_M).2)
    have G133_M4 : FRb (mN M4) M4 M133 := FRb_tr G12_M4 (FRb_lo F133 (G12_M4).2)
    have G133_M8 : FRb (mN M8) M8 M133 := FRb_tr G12_M8 (FRb_lo F133 (G12_M8).2)
    have G133_M12 : FRb (mN M12) M12 M133 := F133
    refine p_ck (SBb_t S133.1).1 ?_
    refine p_app S133 (j := 49) (by decide) (by decide) (fun M134 S134 F134 => ?_)
    have G134_M : FRb (mN M) M M134 := FRb_tr G133_M (FRb_lo F134 (G12_M).2)
    have G134_M4 : FRb (mN M4) M4 M134 := FRb_tr G133_M4 (FRb_lo F134 (G12_M4).2)
    have G134_M8 : FRb (mN M8) M8 M134 := FRb_tr G133_M8 (FRb_lo F134 (G12_M8).2)
    have G134_M12 : FRb (mN M12) M12 M134 := FRb_tr G133_M12 F134
    refine p_dc S134 ?_
    refine p_apr S134 (Q := sLs 45 ++ dgL g) (q := 26) (STR_b H4 G134_M4 (by omega)) (by have := (G12_M4).2; omega) (by rw [List.length_append]; have := sLs_23 (j := 45) (by decide); have := dgL_3 g; omega) (by decide) (fun M135 S135 F135 => ?_)
    have G135_M : FRb (mN M) M M135 := FRb_tr G134_M (FRb_lo F135 (G12_M).2)
    have G135_M4 : FRb (mN M4) M4 M135 := FRb_tr G134_M4 (FRb_lo F135 (G12_M4).2)
    have G135_M8 : FRb (mN M8) M8 M135 := FRb_tr G134_M8 (FRb_lo F135 (G12_M8).2)
    have G135_M12 : FRb (mN M12) M12 M135 := FRb_tr G134_M12 F135
    refine p_dc S135 ?_
    refine p_app S135 (j := 50) (by decide) (by decide) (fun M136 S136 F136 => ?_)
    have G136_M : FRb (mN M) M M136 := FRb_tr G135_M (FRb_lo F136 (G12_M).2)
    have G136_M4 : FRb (mN M4) M4 M136 := FRb_tr G135_M4 (FRb_lo F136 (G12_M4).2)
    have G136_M8 : FRb (mN M8) M8 M136 := FRb_tr G135_M8 (FRb_lo F136 (G12_M8).2)
    have G136_M12 : FRb (mN M12) M12 M136 := FRb_tr G135_M12 F136
    refine p_dc S136 ?_
    refine p_inte S136 (x := n % 4) (rem_n k6 rfl (by omega) (by decide)) (by omega) (by decide) (fun M137 S137 F137 => ?_)
    have G137_M : FRb (mN M) M M137 := FRb_tr G136_M (FRb_lo F137 (G12_M).2)
    have G137_M4 : FRb (mN M4) M4 M137 := FRb_tr G136_M4 (FRb_lo F137 (G12_M4).2)
    have G137_M8 : FRb (mN M8) M8 M137 := FRb_tr G136_M8 (FRb_lo F137 (G12_M8).2)
    have G137_M12 : FRb (mN M12) M12 M137 := FRb_tr G136_M12 F137
    refine p_dc S137 ?_
    refine p_app S137 (j := 51) (by decide) (by decide) (fun M138 S138 F138 => ?_)
    have G138_M : FRb (mN M) M M138 := FRb_tr G137_M (FRb_lo F138 (G12_M).2)
    have G138_M4 : FRb (mN M4) M4 M138 := FRb_tr G137_M4 (FRb_lo F138 (G12_M4).2)
    have G138_M8 : FRb (mN M8) M8 M138 := FRb_tr G137_M8 (FRb_lo F138 (G12_M8).2)
    have G138_M12 : FRb (mN M12) M12 M138 := FRb_tr G137_M12 F138
    refine p_dc S138 ?_
    refine p_inte S138 (x := n % 7) (rem_n k6 rfl (by omega) (by decide)) (by omega) (by decide) (fun M139 S139 F139 => ?_)
    have G139_M : FRb (mN M) M M139 := FRb_tr G138_M (FRb_lo F139 (G12_M).2)
    have G139_M4 : FRb (mN M4) M4 M139 := FRb_tr G138_M4 (FRb_lo F139 (G12_M4).2)
    have G139_M8 : FRb (mN M8) M8 M139 := FRb_tr G138_M8 (FRb_lo F139 (G12_M8).2)
    have G139_M12 : FRb (mN M12) M12 M139 := FRb_tr G138_M12 F139
    refine p_dc S139 ?_
    refine p_str S139 (fun M140 H140 F140 N140 => ?_)
    exact ⟨fun h => absurd h (by omega), fun _ => ⟨_, _, rfl, by rw [q2]; show STR _ _ ([] ++ sLs 49 ++ (sLs 45 ++ dgL g) ++ sLs 50 ++ dgL (n % 4) ++ sLs 51 ++ dgL (n % 7)) _; exact H140, (G139_M).2, FRb_tr G139_M (FRb_lo F140 (G12_M).2)⟩⟩
  refine p_if_f (qne 2 (by decide) q2) ?_
  by_cases q3 : q = 3
  · refine p_if_t (by rw [k2, q3]; rfl) ?_
    refine p_new (fun M173 S173 F173 => ?_)
    have G173_M : FRb (mN M) M M173 := FRb_tr G12_M (FRb_lo F173 (G12_M).2)
    have G173_M4 : FRb (mN M4) M4 M173 := FRb_tr G12_M4 (FRb_lo F173 (G12_M4).2)
    have G173_M8 : FRb (mN M8) M8 M173 := FRb_tr G12_M8 (FRb_lo F173 (G12_M8).2)
    have G173_M12 : FRb (mN M12) M12 M173 := F173
    refine p_ck (SBb_t S173.1).1 ?_
    refine p_app S173 (j := 52) (by decide) (by decide) (fun M174 S174 F174 => ?_)
    have G174_M : FRb (mN M) M M174 := FRb_tr G173_M (FRb_lo F174 (G12_M).2)
    have G174_M4 : FRb (mN M4) M4 M174 := FRb_tr G173_M4 (FRb_lo F174 (G12_M4).2)
    have G174_M8 : FRb (mN M8) M8 M174 := FRb_tr G173_M8 (FRb_lo F174 (G12_M8).2)
    have G174_M12 : FRb (mN M12) M12 M174 := FRb_tr G173_M12 F174
    refine p_dc S174 ?_
    refine p_apr S174 (Q := sLs 46 ++ dgL a) (q := 26) (STR_b H8 G174_M8 (by omega)) (by have := (G12_M8).2; omega) (by rw [List.length_append]; have := sLs_23 (j := 46) (by decide); have := dgL_3 a; omega) (by decide) (fun M175 S175 F175 => ?_)
    have G175_M : FRb (mN M) M M175 := FRb_tr G174_M (FRb_lo F175 (G12_M).2)
    have G175_M4 : FRb (mN M4) M4 M175 := FRb_tr G174_M4 (FRb_lo F175 (G12_M4).2)
    have G175_M8 : FRb (mN M8) M8 M175 := FRb_tr G174_M8 (FRb_lo F175 (G12_M8).2)
    have G175_M12 : FRb (mN M12) M12 M175 := FRb_tr G174_M12 F175
    refine p_dc S175 ?_
    refine p_str S175 (fun M176 H176 F176 N176 => ?_)
    exact ⟨fun h => absurd h (by omega), fun _ => ⟨_, _, rfl, by rw [q3]; show STR _ _ ([] ++ sLs 52 ++ (sLs 46 ++ dgL a)) _; exact H176, (G175_M).2, FRb_tr G175_M (FRb_lo F176 (G12_M).2)⟩⟩
  refine p_if_f (qne 3 (by decide) q3) ?_
  by_cases q4 : q = 4
  · refine p_if_t (by rw [k2, q4]; rfl) ?_
    refine p_new (fun M213 S213 F213 => ?_)
    have G213_M : FRb (mN M) M M213 := FRb_tr G12_M (FRb_lo F213 (G12_M).2)
    have G213_M4 : FRb (mN M4) M4 M213 := FRb_tr G12_M4 (FRb_lo F213 (G12_M4).2)
    have G213_M8 : FRb (mN M8) M8 M213 := FRb_tr G12_M8 (FRb_lo F213 (G12_M8).2)
    have G213_M12 : FRb (mN M12) M12 M213 := F213
    refine p_ck (SBb_t S213.1).1 ?_
    refine p_app S213 (j := 53) (by decide) (by decide) (fun M214 S214 F214 => ?_)
    have G214_M : FRb (mN M) M M214 := FRb_tr G213_M (FRb_lo F214 (G12_M).2)
    have G214_M4 : FRb (mN M4) M4 M214 := FRb_tr G213_M4 (FRb_lo F214 (G12_M4).2)
    have G214_M8 : FRb (mN M8) M8 M214 := FRb_tr G213_M8 (FRb_lo F214 (G12_M8).2)
    have G214_M12 : FRb (mN M12) M12 M214 := FRb_tr G213_M12 F214
    refine p_dc S214 ?_
    refine p_apr S214 (Q := sLs 46 ++ dgL a) (q := 26) (STR_b H8 G214_M8 (by omega)) (by have := (G12_M8).2; omega) (by rw [List.length_append]; have := sLs_23 (j := 46) (by decide); have := dgL_3 a; omega) (by decide) (fun M215 S215 F215 => ?_)
    have G215_M : FRb (mN M) M M215 := FRb_tr G214_M (FRb_lo F215 (G12_M).2)
    have G215_M4 : FRb (mN M4) M4 M215 := FRb_tr G214_M4 (FRb_lo F215 (G12_M4).2)
    have G215_M8 : FRb (mN M8) M8 M215 := FRb_tr G214_M8 (FRb_lo F215 (G12_M8).2)
    have G215_M12 : FRb (mN M12) M12 M215 := FRb_tr G214_M12 F215
    refine p_dc S215 ?_
    refine p_app S215 (j := 50) (by decide) (by decide) (fun M216 S216 F216 => ?_)
    have G216_M : FRb (mN M) M M216 := FRb_tr G215_M (FRb_lo F216 (G12_M).2)
    have G216_M4 : FRb (mN M4) M4 M216 := FRb_tr G215_M4 (FRb_lo F216 (G12_M4).2)
    have G216_M8 : FRb (mN M8) M8 M216 := FRb_tr G215_M8 (FRb_lo F216 (G12_M8).2)
    have G216_M12 : FRb (mN M12) M12 M216 := FRb_tr G215_M12 F216
    refine p_dc S216 ?_
    refine p_inte S216 (x := n) k6 hn (by decide) (fun M217 S217 F217 => ?_)
    have G217_M : FRb (mN M) M M217 := FRb_tr G216_M (FRb_lo F217 (G12_M).2)
    have G217_M4 : FRb (mN M4) M4 M217 := FRb_tr G216_M4 (FRb_lo F217 (G12_M4).2)
    have G217_M8 : FRb (mN M8) M8 M217 := FRb_tr G216_M8 (FRb_lo F217 (G12_M8).2)
    have G217_M12 : FRb (mN M12) M12 M217 := FRb_tr G216_M12 F217
    refine p_dc S217 ?_
    refine p_app S217 (j := 54) (by decide) (by decide) (fun M218 S218 F218 => ?_)
    have G218_M : FRb (mN M) M M218 := FRb_tr G217_M (FRb_lo F218 (G12_M).2)
    have G218_M4 : FRb (mN M4) M4 M218 := FRb_tr G217_M4 (FRb_lo F218 (G12_M4).2)
    have G218_M8 : FRb (mN M8) M8 M218 := FRb_tr G217_M8 (FRb_lo F218 (G12_M8).2)
    have G218_M12 : FRb (mN M12) M12 M218 := FRb_tr G217_M12 F218
    refine p_dc S218 ?_
    refine p_apr S218 (Q := sLs 46 ++ dgL b) (q := 26) (STR_b H12 G218_M12 (by omega)) (by omega) (by rw [List.length_append]; have := sLs_23 (j := 46) (by decide); have := dgL_3 b; omega) (by decide) (fun M219 S219 F219 => ?_)
    have G219_M : FRb (mN M) M M219 := FRb_tr G218_M (FRb_lo F219 (G12_M).2)
    have G219_M4 : FRb (mN M4) M4 M219 := FRb_tr G218_M4 (FRb_lo F219 (G12_M4).2)
    have G219_M8 : FRb (mN M8) M8 M219 := FRb_tr G218_M8 (FRb_lo F219 (G12_M8).2)
    have G219_M12 : FRb (mN M12) M12 M219 := FRb_tr G218_M12 F219
    refine p_dc S219 ?_
    refine p_app S219 (j := 55) (by decide) (by decide) (fun M220 S220 F220 => ?_)
    have G220_M : FRb (mN M) M M220 := FRb_tr G219_M (FRb_lo F220 (G12_M).2)
    have G220_M4 : FRb (mN M4) M4 M220 := FRb_tr G219_M4 (FRb_lo F220 (G12_M4).2)
    have G220_M8 : FRb (mN M8) M8 M220 := FRb_tr G219_M8 (FRb_lo F220 (G12_M8).2)
    have G220_M12 : FRb (mN M12) M12 M220 := FRb_tr G219_M12 F220
    refine p_dc S220 ?_
    refine p_str S220 (fun M221 H221 F221 N221 => ?_)
    exact ⟨fun h => absurd h (by omega), fun _ => ⟨_, _, rfl, by rw [q4]; show STR _ _ ([] ++ sLs 53 ++ (sLs 46 ++ dgL a) ++ sLs 50 ++ dgL n ++ sLs 54 ++ (sLs 46 ++ dgL b) ++ sLs 55) _; exact H221, (G220_M).2, FRb_tr G220_M (FRb_lo F221 (G12_M).2)⟩⟩
  refine p_if_f (qne 4 (by decide) q4) ?_
  by_cases q5 : q = 5
  · refine p_if_t (by rw [k2, q5]; rfl) ?_
    refine p_new (fun M253 S253 F253 => ?_)
    have G253_M : FRb (mN M) M M253 := FRb_tr G12_M (FRb_lo F253 (G12_M).2)
    have G253_M4 : FRb (mN M4) M4 M253 := FRb_tr G12_M4 (FRb_lo F253 (G12_M4).2)
    have G253_M8 : FRb (mN M8) M8 M253 := FRb_tr G12_M8 (FRb_lo F253 (G12_M8).2)
    have G253_M12 : FRb (mN M12) M12 M253 := F253
    refine p_ck (SBb_t S253.1).1 ?_
    refine p_app S253 (j := 56) (by decide) (by decide) (fun M254 S254 F254 => ?_)
    have G254_M : FRb (mN M) M M254 := FRb_tr G253_M (FRb_lo F254 (G12_M).2)
    have G254_M4 : FRb (mN M4) M4 M254 := FRb_tr G253_M4 (FRb_lo F254 (G12_M4).2)
    have G254_M8 : FRb (mN M8) M8 M254 := FRb_tr G253_M8 (FRb_lo F254 (G12_M8).2)
    have G254_M12 : FRb (mN M12) M12 M254 := FRb_tr G253_M12 F254
    refine p_dc S254 ?_
    refine p_apr S254 (Q := sLs 46 ++ dgL a) (q := 26) (STR_b H8 G254_M8 (by omega)) (by have := (G12_M8).2; omega) (by rw [List.length_append]; have := sLs_23 (j := 46) (by decide); have := dgL_3 a; omega) (by decide) (fun M255 S255 F255 => ?_)
    have G255_M : FRb (mN M) M M255 := FRb_tr G254_M (FRb_lo F255 (G12_M).2)
    have G255_M4 : FRb (mN M4) M4 M255 := FRb_tr G254_M4 (FRb_lo F255 (G12_M4).2)
    have G255_M8 : FRb (mN M8) M8 M255 := FRb_tr G254_M8 (FRb_lo F255 (G12_M8).2)
    have G255_M12 : FRb (mN M12) M12 M255 := FRb_tr G254_M12 F255
    refine p_dc S255 ?_
    refine p_app S255 (j := 57) (by decide) (by decide) (fun M256 S256 F256 => ?_)
    have G256_M : FRb (mN M) M M256 := FRb_tr G255_M (FRb_lo F256 (G12_M).2)
    have G256_M4 : FRb (mN M4) M4 M256 := FRb_tr G255_M4 (FRb_lo F256 (G12_M4).2)
    have G256_M8 : FRb (mN M8) M8 M256 := FRb_tr G255_M8 (FRb_lo F256 (G12_M8).2)
    have G256_M12 : FRb (mN M12) M12 M256 := FRb_tr G255_M12 F256
    refine p_dc S256 ?_
    refine p_inte S256 (x := n % 5) (rem_n k6 rfl (by omega) (by decide)) (by omega) (by decide) (fun M257 S257 F257 => ?_)
    have G257_M : FRb (mN M) M M257 := FRb_tr G256_M (FRb_lo F257 (G12_M).2)
    have G257_M4 : FRb (mN M4) M4 M257 := FRb_tr G256_M4 (FRb_lo F257 (G12_M4).2)
    have G257_M8 : FRb (mN M8) M8 M257 := FRb_tr G256_M8 (FRb_lo F257 (G12_M8).2)
    have G257_M12 : FRb (mN M12) M12 M257 := FRb_tr G256_M12 F257
    refine p_dc S257 ?_
    refine p_app S257 (j := 58) (by decide) (by decide) (fun M258 S258 F258 => ?_)
    have G258_M : FRb (mN M) M M258 := FRb_tr G257_M (FRb_lo F258 (G12_M).2)
    have G258_M4 : FRb (mN M4) M4 M258 := FRb_tr G257_M4 (FRb_lo F258 (G12_M4).2)
    have G258_M8 : FRb (mN M8) M8 M258 := FRb_tr G257_M8 (FRb_lo F258 (G12_M8).2)
    have G258_M12 : FRb (mN M12) M12 M258 := FRb_tr G257_M12 F258
    refine p_dc S258 ?_
    refine p_str S258 (fun M259 H259 F259 N259 => ?_)
    exact ⟨fun h => absurd h (by omega), fun _ => ⟨_, _, rfl, by rw [q5]; show STR _ _ ([] ++ sLs 56 ++ (sLs 46 ++ dgL a) ++ sLs 57 ++ dgL (n % 5) ++ sLs 58) _; exact H259, (G258_M).2, FRb_tr G258_M (FRb_lo F259 (G12_M).2)⟩⟩
  refine p_if_f (qne 5 (by decide) q5) ?_
  by_cases q6 : q = 6
  · refine p_if_t (by rw [k2, q6]; rfl) ?_
    refine p_new (fun M293 S293 F293 => ?_)
    have G293_M : FRb (mN M) M M293 := FRb_tr G12_M (FRb_lo F293 (G12_M).2)
    have G293_M4 : FRb (mN M4) M4 M293 := FRb_tr G12_M4 (FRb_lo F293 (G12_M4).2)
    have G293_M8 : FRb (mN M8) M8 M293 := FRb_tr G12_M8 (FRb_lo F293 (G12_M8).2)
    have G293_M12 : FRb (mN M12) M12 M293 := F293
    refine p_ck (SBb_t S293.1).1 ?_
    refine p_app S293 (j := 59) (by decide) (by decide) (fun M294 S294 F294 => ?_)
    have G294_M : FRb (mN M) M M294 := FRb_tr G293_M (FRb_lo F294 (G12_M).2)
    have G294_M4 : FRb (mN M4) M4 M294 := FRb_tr G293_M4 (FRb_lo F294 (G12_M4).2)
    have G294_M8 : FRb (mN M8) M8 M294 := FRb_tr G293_M8 (FRb_lo F294 (G12_M8).2)
    have G294_M12 : FRb (mN M12) M12 M294 := FRb_tr G293_M12 F294
    refine p_dc S294 ?_
    refine p_apr S294 (Q := sLs 46 ++ dgL a) (q := 26) (STR_b H8 G294_M8 (by omega)) (by have := (G12_M8).2; omega) (by rw [List.length_append]; have := sLs_23 (j := 46) (by decide); have := dgL_3 a; omega) (by decide) (fun M295 S295 F295 => ?_)
    have G295_M : FRb (mN M) M M295 := FRb_tr G294_M (FRb_lo F295 (G12_M).2)
    have G295_M4 : FRb (mN M4) M4 M295 := FRb_tr G294_M4 (FRb_lo F295 (G12_M4).2)
    have G295_M8 : FRb (mN M8) M8 M295 := FRb_tr G294_M8 (FRb_lo F295 (G12_M8).2)
    have G295_M12 : FRb (mN M12) M12 M295 := FRb_tr G294_M12 F295
    refine p_dc S295 ?_
    refine p_app S295 (j := 60) (by decide) (by decide) (fun M296 S296 F296 => ?_)
    have G296_M : FRb (mN M) M M296 := FRb_tr G295_M (FRb_lo F296 (G12_M).2)
    have G296_M4 : FRb (mN M4) M4 M296 := FRb_tr G295_M4 (FRb_lo F296 (G12_M4).2)
    have G296_M8 : FRb (mN M8) M8 M296 := FRb_tr G295_M8 (FRb_lo F296 (G12_M8).2)
    have G296_M12 : FRb (mN M12) M12 M296 := FRb_tr G295_M12 F296
    refine p_dc S296 ?_
    refine p_apr S296 (Q := sLs 46 ++ dgL b) (q := 26) (STR_b H12 G296_M12 (by omega)) (by omega) (by rw [List.length_append]; have := sLs_23 (j := 46) (by decide); have := dgL_3 b; omega) (by decide) (fun M297 S297 F297 => ?_)
    have G297_M : FRb (mN M) M M297 := FRb_tr G296_M (FRb_lo F297 (G12_M).2)
    have G297_M4 : FRb (mN M4) M4 M297 := FRb_tr G296_M4 (FRb_lo F297 (G12_M4).2)
    have G297_M8 : FRb (mN M8) M8 M297 := FRb_tr G296_M8 (FRb_lo F297 (G12_M8).2)
    have G297_M12 : FRb (mN M12) M12 M297 := FRb_tr G296_M12 F297
    refine p_dc S297 ?_
    refine p_app S297 (j := 61) (by decide) (by decide) (fun M298 S298 F298 => ?_)
    have G298_M : FRb (mN M) M M298 := FRb_tr G297_M (FRb_lo F298 (G12_M).2)
    have G298_M4 : FRb (mN M4) M4 M298 := FRb_tr G297_M4 (FRb_lo F298 (G12_M4).2)
    have G298_M8 : FRb (mN M8) M8 M298 := FRb_tr G297_M8 (FRb_lo F298 (G12_M8).2)
    have G298_M12 : FRb (mN M12) M12 M298 := FRb_tr G297_M12 F298
    refine p_dc S298 ?_
    refine p_inte S298 (x := n) k6 hn (by decide) (fun M299 S299 F299 => ?_)
    have G299_M : FRb (mN M) M M299 := FRb_tr G298_M (FRb_lo F299 (G12_M).2)
    have G299_M4 : FRb (mN M4) M4 M299 := FRb_tr G298_M4 (FRb_lo F299 (G12_M4).2)
    have G299_M8 : FRb (mN M8) M8 M299 := FRb_tr G298_M8 (FRb_lo F299 (G12_M8).2)
    have G299_M12 : FRb (mN M12) M12 M299 := FRb_tr G298_M12 F299
    refine p_dc S299 ?_
    refine p_app S299 (j := 62) (by decide) (by decide) (fun M300 S300 F300 => ?_)
    have G300_M : FRb (mN M) M M300 := FRb_tr G299_M (FRb_lo F300 (G12_M).2)
    have G300_M4 : FRb (mN M4) M4 M300 := FRb_tr G299_M4 (FRb_lo F300 (G12_M4).2)
    have G300_M8 : FRb (mN M8) M8 M300 := FRb_tr G299_M8 (FRb_lo F300 (G12_M8).2)
    have G300_M12 : FRb (mN M12) M12 M300 := FRb_tr G299_M12 F300
    refine p_dc S300 ?_
    refine p_str S300 (fun M301 H301 F301 N301 => ?_)
    exact ⟨fun h => absurd h (by omega), fun _ => ⟨_, _, rfl, by rw [q6]; show STR _ _ ([] ++ sLs 59 ++ (sLs 46 ++ dgL a) ++ sLs 60 ++ (sLs 46 ++ dgL b) ++ sLs 61 ++ dgL n ++ sLs 62) _; exact H301, (G300_M).2, FRb_tr G300_M (FRb_lo F301 (G12_M).2)⟩⟩
  refine p_if_f (qne 6 (by decide) q6) ?_
  by_cases q7 : q = 7
  · refine p_if_t (by rw [k2, q7]; rfl) ?_
    refine p_new (fun M333 S333 F333 => ?_)
    have G333_M : FRb (mN M) M M333 := FRb_tr G12_M (FRb_lo F333 (G12_M).2)
    have G333_M4 : FRb (mN M4) M4 M333 := FRb_tr G12_M4 (FRb_lo F333 (G12_M4).2)
    have G333_M8 : FRb (mN M8) M8 M333 := FRb_tr G12_M8 (FRb_lo F333 (G12_M8).2)
    have G333_M12 : FRb (mN M12) M12 M333 := F333
    refine p_ck (SBb_t S333.1).1 ?_
    refine p_app S333 (j := 63) (by decide) (by decide) (fun M334 S334 F334 => ?_)
    have G334_M : FRb (mN M) M M334 := FRb_tr G333_M (FRb_lo F334 (G12_M).2)
    have G334_M4 : FRb (mN M4) M4 M334 := FRb_tr G333_M4 (FRb_lo F334 (G12_M4).2)
    have G334_M8 : FRb (mN M8) M8 M334 := FRb_tr G333_M8 (FRb_lo F334 (G12_M8).2)
    have G334_M12 : FRb (mN M12) M12 M334 := FRb_tr G333_M12 F334
    refine p_dc S334 ?_
    refine p_apr S334 (Q := sLs 46 ++ dgL a) (q := 26) (STR_b H8 G334_M8 (by omega)) (by have := (G12_M8).2; omega) (by rw [List.length_append]; have := sLs_23 (j := 46) (by decide); have := dgL_3 a; omega) (by decide) (fun M335 S335 F335 => ?_)
    have G335_M : FRb (mN M) M M335 := FRb_tr G334_M (FRb_lo F335 (G12_M).2)
    have G335_M4 : FRb (mN M4) M4 M335 := FRb_tr G334_M4 (FRb_lo F335 (G12_M4).2)
    have G335_M8 : FRb (mN M8) M8 M335 := FRb_tr G334_M8 (FRb_lo F335 (G12_M8).2)
    have G335_M12 : FRb (mN M12) M12 M335 := FRb_tr G334_M12 F335
    refine p_dc S335 ?_
    refine p_app S335 (j := 64) (by decide) (by decide) (fun M336 S336 F336 => ?_)
    have G336_M : FRb (mN M) M M336 := FRb_tr G335_M (FRb_lo F336 (G12_M).2)
    have G336_M4 : FRb (mN M4) M4 M336 := FRb_tr G335_M4 (FRb_lo F336 (G12_M4).2)
    have G336_M8 : FRb (mN M8) M8 M336 := FRb_tr G335_M8 (FRb_lo F336 (G12_M8).2)
    have G336_M12 : FRb (mN M12) M12 M336 := FRb_tr G335_M12 F336
    refine p_dc S336 ?_
    refine p_apr S336 (Q := sLs 45 ++ dgL g) (q := 26) (STR_b H4 G336_M4 (by omega)) (by have := (G12_M4).2; omega) (by rw [List.length_append]; have := sLs_23 (j := 45) (by decide); have := dgL_3 g; omega) (by decide) (fun M337 S337 F337 => ?_)
    have G337_M : FRb (mN M) M M337 := FRb_tr G336_M (FRb_lo F337 (G12_M).2)
    have G337_M4 : FRb (mN M4) M4 M337 := FRb_tr G336_M4 (FRb_lo F337 (G12_M4).2)
    have G337_M8 : FRb (mN M8) M8 M337 := FRb_tr G336_M8 (FRb_lo F337 (G12_M8).2)
    have G337_M12 : FRb (mN M12) M12 M337 := FRb_tr G336_M12 F337
    refine p_dc S337 ?_
    refine p_app S337 (j := 65) (by decide) (by decide) (fun M338 S338 F338 => ?_)
    have G338_M : FRb (mN M) M M338 := FRb_tr G337_M (FRb_lo F338 (G12_M).2)
    have G338_M4 : FRb (mN M4) M4 M338 := FRb_tr G337_M4 (FRb_lo F338 (G12_M4).2)
    have G338_M8 : FRb (mN M8) M8 M338 := FRb_tr G337_M8 (FRb_lo F338 (G12_M8).2)
    have G338_M12 : FRb (mN M12) M12 M338 := FRb_tr G337_M12 F338
    refine p_dc S338 ?_
    refine p_apr S338 (Q := sLs 45 ++ dgL g) (q := 26) (STR_b H4 G338_M4 (by omega)) (by have := (G12_M4).2; omega) (by rw [List.length_append]; have := sLs_23 (j := 45) (by decide); have := dgL_3 g; omega) (by decide) (fun M339 S339 F339 => ?_)
    have G339_M : FRb (mN M) M M339 := FRb_tr G338_M (FRb_lo F339 (G12_M).2)
    have G339_M4 : FRb (mN M4) M4 M339 := FRb_tr G338_M4 (FRb_lo F339 (G12_M4).2)
    have G339_M8 : FRb (mN M8) M8 M339 := FRb_tr G338_M8 (FRb_lo F339 (G12_M8).2)
    have G339_M12 : FRb (mN M12) M12 M339 := FRb_tr G338_M12 F339
    refine p_dc S339 ?_
    refine p_app S339 (j := 66) (by decide) (by decide) (fun M340 S340 F340 => ?_)
    have G340_M : FRb (mN M) M M340 := FRb_tr G339_M (FRb_lo F340 (G12_M).2)
    have G340_M4 : FRb (mN M4) M4 M340 := FRb_tr G339_M4 (FRb_lo F340 (G12_M4).2)
    have G340_M8 : FRb (mN M8) M8 M340 := FRb_tr G339_M8 (FRb_lo F340 (G12_M8).2)
    have G340_M12 : FRb (mN M12) M12 M340 := FRb_tr G339_M12 F340
    refine p_dc S340 ?_
    refine p_inte S340 (x := n % 20) (rem_n k6 rfl (by omega) (by decide)) (by omega) (by decide) (fun M341 S341 F341 => ?_)
    have G341_M : FRb (mN M) M M341 := FRb_tr G340_M (FRb_lo F341 (G12_M).2)
    have G341_M4 : FRb (mN M4) M4 M341 := FRb_tr G340_M4 (FRb_lo F341 (G12_M4).2)
    have G341_M8 : FRb (mN M8) M8 M341 := FRb_tr G340_M8 (FRb_lo F341 (G12_M8).2)
    have G341_M12 : FRb (mN M12) M12 M341 := FRb_tr G340_M12 F341
    refine p_dc S341 ?_
    refine p_app S341 (j := 54) (by decide) (by decide) (fun M342 S342 F342 => ?_)
    have G342_M : FRb (mN M) M M342 := FRb_tr G341_M (FRb_lo F342 (G12_M).2)
    have G342_M4 : FRb (mN M4) M4 M342 := FRb_tr G341_M4 (FRb_lo F342 (G12_M4).2)
    have G342_M8 : FRb (mN M8) M8 M342 := FRb_tr G341_M8 (FRb_lo F342 (G12_M8).2)
    have G342_M12 : FRb (mN M12) M12 M342 := FRb_tr G341_M12 F342
    refine p_dc S342 ?_
    refine p_apr S342 (Q := sLs 46 ++ dgL b) (q := 26) (STR_b H12 G342_M12 (by omega)) (by omega) (by rw [List.length_append]; have := sLs_23 (j := 46) (by decide); have := dgL_3 b; omega) (by decide) (fun M343 S343 F343 => ?_)
    have G343_M : FRb (mN M) M M343 := FRb_tr G342_M (FRb_lo F343 (G12_M).2)
    have G343_M4 : FRb (mN M4) M4 M343 := FRb_tr G342_M4 (FRb_lo F343 (G12_M4).2)
    have G343_M8 : FRb (mN M8) M8 M343 := FRb_tr G342_M8 (FRb_lo F343 (G12_M8).2)
    have G343_M12 : FRb (mN M12) M12 M343 := FRb_tr G342_M12 F343
    refine p_dc S343 ?_
    refine p_app S343 (j := 66) (by decide) (by decide) (fun M344 S344 F344 => ?_)
    have G344_M : FRb (mN M) M M344 := FRb_tr G343_M (FRb_lo F344 (G12_M).2)
    have G344_M4 : FRb (mN M4) M4 M344 := FRb_tr G343_M4 (FRb_lo F344 (G12_M4).2)
    have G344_M8 : FRb (mN M8) M8 M344 := FRb_tr G343_M8 (FRb_lo F344 (G12_M8).2)
    have G344_M12 : FRb (mN M12) M12 M344 := FRb_tr G343_M12 F344
    refine p_dc S344 ?_
    refine p_inte S344 (x := n % 9) (rem_n k6 rfl (by omega) (by decide)) (by omega) (by decide) (fun M345 S345 F345 => ?_)
    have G345_M : FRb (mN M) M M345 := FRb_tr G344_M (FRb_lo F345 (G12_M).2)
    have G345_M4 : FRb (mN M4) M4 M345 := FRb_tr G344_M4 (FRb_lo F345 (G12_M4).2)
    have G345_M8 : FRb (mN M8) M8 M345 := FRb_tr G344_M8 (FRb_lo F345 (G12_M8).2)
    have G345_M12 : FRb (mN M12) M12 M345 := FRb_tr G344_M12 F345
    refine p_dc S345 ?_
    refine p_str S345 (fun M346 H346 F346 N346 => ?_)
    exact ⟨fun h => absurd h (by omega), fun _ => ⟨_, _, rfl, by rw [q7]; show STR _ _ ([] ++ sLs 63 ++ (sLs 46 ++ dgL a) ++ sLs 64 ++ (sLs 45 ++ dgL g) ++ sLs 65 ++ (sLs 45 ++ dgL g) ++ sLs 66 ++ dgL (n % 20) ++ sLs 54 ++ (sLs 46 ++ dgL b) ++ sLs 66 ++ dgL (n % 9)) _; exact H346, (G345_M).2, FRb_tr G345_M (FRb_lo F346 (G12_M).2)⟩⟩
  refine p_if_f (qne 7 (by decide) q7) ?_
  exact ⟨fun _ => ⟨_, rfl, G12_M⟩, fun h => absurd h (by omega)⟩
