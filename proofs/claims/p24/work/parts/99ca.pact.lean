/-! ## Pure: the line of a pact -/
theorem sum_any {Z : Nat → Nat} {M : gMem} {w n g m f q : Nat} (hT : mT M w = 20) (hL : 4 ≤ mL M w) (hLm : mL M w ≤ 1000) (hw : w < mN M) (h0 : mI M w 0 = nI g) (h1 : mI M w 1 = nI q) (h2 : mI M w 2 = nI n) (h3 : mI M w 3 = nI m) (hn : n < 1000) (hg : g < 1000) (hm : m < 1000) (hf : f < 1000) (hq : q < 5) : QSt (mN M) M (sumL q g n m f) (f_L_sum Z M (some w) (nI f)) := by
  have : q = 0 ∨ q = 1 ∨ q = 2 ∨ q = 3 ∨ q = 4 := by omega
  rcases this with e | e | e | e | e <;> subst e
  · exact sum_0 hT hL hLm hw h1 h2 hn hg hm hf
  · exact sum_1 hT hL hLm hw h1 h2 h0 hn hg hm hf
  · exact sum_2 hT hL hLm hw h1 h2 h3 hn hg hm hf
  · exact sum_3 hT hL hLm hw h1 h2 hn hg hm hf
  · exact sum_4 hT hL hLm hw h1 h2 hn hg hm hf
theorem sumL_26 {q g n m f : Nat} (hg : g < 10) (hn : n < 1000) (hm : m < 100) (hf : f < 10) : (sumL q g n m f).length ≤ 26 := by
  have d1 := dgL_1 hg
  have d2 := dgL_1 hf
  have d3 := dgL_2 hm
  have d4 := dgL_3 n
  have d5 := dgL_2 (x := n % 30) (by omega)
  unfold sumL
  repeat' split
  all_goals (simp only [List.length_append, List.length_nil, show (sLs 67).length = 0 by decide, show (sLs 68).length = 6 by decide, show (sLs 69).length = 3 by decide, show (sLs 70).length = 4 by decide, show (sLs 71).length = 6 by decide, show (sLs 72).length = 1 by decide, show (sLs 73).length = 8 by decide, show (sLs 74).length = 1 by decide, show (sLs 75).length = 22 by decide]; omega)
/-- a pact as told: the ground that is spared, where its members begin, how many, the sum's kind and two numbers -/
def pT (p F : Nat) (y : Option Nat × Nat × Nat × Nat × Nat × Nat) : List Nat := sLs 89 ++ dgL p ++ sLs 90 ++ memT y.2.1 F y.2.2.1 ++ (match y.1 with | some g => sLs 92 ++ dgL g ++ sLs 93 ++ sumL y.2.2.2.1 g y.2.2.2.2.1 y.2.2.2.2.2 y.2.1 ++ sLs 80 | none => sLs 91)
def pTs (F : Nat) : Nat → List (Option Nat × Nat × Nat × Nat × Nat × Nat) → List Nat
  | _, [] => []
  | k, y :: t => pT k F y ++ pTs F (k + 1) t
theorem pTs_app {F : Nat} : ∀ (l : List (Option Nat × Nat × Nat × Nat × Nat × Nat)) (f : Nat) (y : Option Nat × Nat × Nat × Nat × Nat × Nat), pTs F f (l ++ [y]) = pTs F f l ++ pT (f + l.length) F y
  | [], f, y => by simp [pTs]
  | z :: l, f, y => by
    show pT f F z ++ pTs F (f + 1) (l ++ [y]) = _
    rw [pTs_app l (f + 1) y, show f + 1 + l.length = f + (z :: l).length by simp [List.length_cons]; omega]
    simp [pTs, List.append_assoc]
def pOk (F G : Nat) (y : Option Nat × Nat × Nat × Nat × Nat × Nat) : Prop := (∀ g, y.1 = some g → g < G) ∧ y.2.1 < F ∧ (1 ≤ y.2.2.1 ∧ y.2.2.1 ≤ F) ∧ y.2.2.2.1 < 5 ∧ y.2.2.2.2.1 < 120 ∧ y.2.2.2.2.2 < 30
/-- place p of the two rows of pacts -/
def E2 (x p : Nat) (c j : Nat) : Prop := (c = x + 44 ∨ c = x + 51) ∧ j = p
def PPr (F G a x p c kq nq : Nat) (L : List Nat) (M : gMem) (o : Option ((gMem × Nat × Nat × Int32) ⊕ (Option Nat × gMem))) : Prop := ∃ M' kc' kn' y w, o = some (.inl (M', kc', kn', nI (p + 1))) ∧ pOk F G y ∧ BS a x (c + 72) (L ++ pT p F y) M' ∧ mI M' x = mI M x ∧ FRo (mN M) (E2 x p) M M' ∧ mR M' (x + 51) p = some w ∧ OW x w y.2.2.1 M' ∧ (∀ i, i < y.2.2.1 → mI M' w i = nI ((y.2.1 + i) % F)) ∧ kc' ≤ kq ∧ kn' ≤ nq
def PPm (a x u n b F p N c kq nq : Nat) (L : List Nat) (M0 : gMem) (o : Option ((gMem × Nat × Nat × Int32) ⊕ (Option Nat × gMem))) : Prop := ∃ M' kc' kn', o = some (.inl (M', kc', kn', nI (p + 1))) ∧ BS a x c L M' ∧ mI M' x = mI M0 x ∧ FRo N (E2 x p) M0 M' ∧ mR M' (x + 51) p = some u ∧ OW x u n M' ∧ (∀ i, i < n → mI M' u i = nI ((b + i) % F)) ∧ kc' ≤ kq ∧ kn' ≤ nq
def PPq (a x u n b F p N c kq nq : Nat) (L : List Nat) (M0 : gMem) (o : Option ((gMem × Nat × Nat × Int32) ⊕ ((gMem × Nat × Nat × Int32) ⊕ (Option Nat × gMem)))) : Prop := ∃ r, o = oI r ∧ PPm a x u n b F p N c kq nq L M0 r
def sp0 (sp : Option Nat) : Int32 := match sp with | some g => nI g | none => -1
def pEnd (q nn mm b : Nat) (sp : Option Nat) : List Nat := match sp with | some g => sLs 92 ++ dgL g ++ sLs 93 ++ sumL q g nn mm b ++ sLs 80 | none => sLs 91
set_option maxRecDepth 100000 in
/-- the members and the end of the line; L holds all of the line up to the members -/
theorem m_all {Z : Nat → Nat} {N a x u n w c kc kn b F G p q nn mm B : Nat} {sp : Option Nat} {L : List Nat} {M0 M : gMem} {y : Int32} (hZ : ZHy Z B) (hx : B ≤ x) (hF : mI M0 x 1 = nI F) (hF1 : 1 ≤ F ∧ F ≤ 6) (hG1 : G ≤ 4) (hp : p < 4) (hb : b = blw (y >>> ((4 : Int32) &&& 31)) F) (hn : 1 ≤ n ∧ n ≤ F) (hc : c + 61 ≤ 1199) (hq : kc + 32 ≤ 800 ∧ kn + 69624 ≤ 1200000) (H : GQ N (E2 x p) M0 a x u n w c L M)
    (h0 : mI M w 0 = sp0 sp) (hsp : ∀ g, sp = some g → g < G) (h1 : mI M w 1 = nI q) (hq5 : q < 5) (h2 : mI M w 2 = nI nn) (hnn : nn < 120) (h3 : mI M w 3 = nI mm) (hmm : mm < 30) :
    PPm a x u n b F p N (c + 61) (kc + 32) (kn + 69624) (L ++ memT b F n ++ pEnd q nn mm b sp) M0 (lp_L_shore_792 Z M kc kn (some a) (some x) (nI p) y (nI n) (some u) (some w) (nI 0)) := by
  have hbF : b < F := by rw [hb]; exact (l_below (M := M) (v := y >>> ((4 : Int32) &&& 31)) (n := F) (by omega) (by omega)).2
  obtain ⟨qq, ⟨M1, kc1, kn1, rfl, G1, ew, ei, FF, hkc, hkn⟩, hl⟩ := lp_ex (f := fun (q : gMem × Nat × Nat × Int32) => bb_L_shore_792 Z q.1 q.2.1 q.2.2.1 (some a) (some x) (nI p) y (nI n) (some u) (some w) q.2.2.2)
    (MLs N (E2 x p) M0 a x u n w c kc kn b F L M) n (fun j q hj hq1 => m_step hF hF1 hb hn.2 hj (by omega) ⟨by omega, by omega⟩ hq1) n 0 (M, kc, kn, nI 0) (by omega) ⟨M, kc, kn, rfl, by rw [show c + 3 * 0 = c from rfl, show L ++ memT b F 0 = L from List.append_nil L]; exact H, rfl, fun i hi => absurd hi (Nat.not_lt_zero _), FRo_r _ _ _, by omega, by omega⟩
  unfold lp_L_shore_792
  rw [hl]
  suffices hs : PPq a x u n b F p N (c + 61) (kc + 32) (kn + 69624) (L ++ memT b F n ++ pEnd q nn mm b sp) M0 (bb_L_shore_792 Z M1 kc1 kn1 (some a) (some x) (nI p) y (nI n) (some u) (some w) (nI n)) by
    obtain ⟨r, hr, hP⟩ := hs
    rw [lp_oI hr]; exact hP
  unfold bb_L_shore_792
  rw [if_pos ((nI_leI (by omega) (by omega)).mpr (Nat.le_refl _))]
  refine r_dx G1.1 ?_
  obtain ⟨-, -, -, -, rr7⟩ := G1.1.2.2.2.2.1
  obtain ⟨b1, b2⟩ := G1.1.2.2.2.2.2.2.2.2.2
  rw [rr7, dr_S, ck_t b1, ck_t (show inb (nI p) (mL M1 (x + 51)) by rw [b2]; exact (inbN (by omega)).mpr (by omega)), dr_S, ck_t G1.2.1.1, nI_clamp (by omega), lw_S, dr_S]
  obtain ⟨g1, g2, g3, g4, g5, g6⟩ := G1
  have G2 : GQ N (E2 x p) M0 a x u n w (c + 3 * n) (L ++ memT b F n) (wR M1 (x + 51) p (some u)) := ⟨BS_R g1 b1 (by omega), g2, g3, FRo_t g4 (FRo_R ⟨.inr rfl, rfl⟩), g5, g6⟩
  have m51 : mR (wR M1 (x + 51) p (some u)) (x + 51) p = some u := up2_eq _ _ _ _
  have t51 : mT (wR M1 (x + 51) p (some u)) (x + 51) = 28 := b1
  have iu : mI (wR M1 (x + 51) p (some u)) u = mI M1 u := rfl
  have iw : mI (wR M1 (x + 51) p (some u)) w = mI M w := ew
  generalize wR M1 (x + 51) p (some u) = M2 at G2 m51 t51 iu iw
  clear g1 g2 g3 g4 g5 g6 b1 b2 rr7
  have n51 : x + 51 < mN M2 := by have := G2.1.2.2.2.1; omega
  rw [ck_t G2.2.2.1.1, ck_t (show inb (0 : Int32) (mL M2 w) by rw [G2.2.2.1.2.1]; decide)]
  have w0 : mI M2 w ((0 : Int32)).toNatClampNeg = sp0 sp := by rw [iw]; exact h0
  -- the end
  have fin : ∀ M3 kc3 kn3, BS a x (c + 61) (L ++ memT b F n ++ pEnd q nn mm b sp) M3 → FRt M2 M3 → kc3 ≤ kc + 32 → kn3 ≤ kn + 69624 → PPq a x u n b F p N (c + 61) (kc + 32) (kn + 69624) (L ++ memT b F n ++ pEnd q nn mm b sp) M0 (oI (b_L_shore_920 Z M3 kc3 kn3 (some a) (some x) (nI p))) := fun M3 kc3 kn3 S3 F3 hk hn3 => by
    obtain ⟨G3, i3, -⟩ := GQ_F G2 S3 F3
    refine ⟨_, rfl, M3, kc3, kn3, ?_, S3, G3.2.2.2.2.1, G3.2.2.2.1, ?_, G3.2.1, fun i hi => by rw [i3, iu]; exact ei i hi, hk, hn3⟩
    · unfold b_L_shore_920
      rw [nI_1]
    · obtain ⟨-, -, z3⟩ := F3.1 (x + 51) n51
      rw [(z3 (by rw [t51]; decide) (by rw [t51]; decide)).2]
      exact m51
  cases sp with
  | none =>
    rw [w0, if_neg (show ¬ (0 : Int32) ≤ sp0 none by decide)]
    refine r_da G2.1 (p_ck ⟨by omega, by omega⟩ ?_)
    refine gq_app G2 (e := 7) (by decide) (by decide) (by omega) (fun M3 G3 u3 w3 F3 => ?_)
    refine fin M3 _ _ ?_ F3 (by omega) (by omega)
    show BS a x (c + 61) (L ++ memT b F n ++ sLs 91) M3
    exact ⟨G3.1.1, by have := G3.1.2.1; omega, G3.1.2.2⟩
  | some g =>
    have hg := hsp g rfl
    rw [w0, if_pos (show (0 : Int32) ≤ sp0 (some g) from (nI_leI (a := 0) (b := g) (by decide) (by omega)).mpr (Nat.zero_le _))]
    refine r_da G2.1 (p_ck ⟨by omega, by omega⟩ ?_)
    refine gq_app G2 (e := 8) (by decide) (by decide) (by omega) (fun M3 G3 u3 w3 F3 => ?_)
    rw [ck_t G3.2.2.1.1, ck_t (show inb (0 : Int32) (mL M3 w) by rw [G3.2.2.1.2.1]; decide)]
    refine r_da G3.1 (p_ck ⟨by omega, by omega⟩ ?_)
    refine gq_int G3 (y := g) (d := 1) (by rw [w3]; exact w0) (by omega) (dgL_1 (by omega)) (by omega) (fun M4 G4 u4 w4 F4 => ?_)
    refine r_da G4.1 (p_ck ⟨by omega, by omega⟩ ?_)
    refine gq_app G4 (e := 7) (by decide) (by decide) (by omega) (fun M5 G5 u5 w5 F5 => ?_)
    rw [ck_t G5.2.1.1, ck_t (show inb (0 : Int32) (mL M5 u) by rw [G5.2.1.2.1]; exact (inbN (i := 0) (by decide)).mpr (by omega))]
    refine p_ck ⟨by omega, by omega⟩ ?_
    have iw5 : mI M5 w = mI M w := by rw [w5, w4, w3, iw]
    have iu5 : mI M5 u ((0 : Int32)).toNatClampNeg = nI b := by
      rw [u5, u4, u3, iu]
      have := ei 0 (by omega)
      rw [Nat.add_zero, Nat.mod_eq_of_lt hbF] at this
      exact this
    rw [iu5]
    obtain ⟨s, M6, e6, H6, h6, f6⟩ := sum_any (Z := Z) (M := M5) (w := w) (n := nn) (g := g) (m := mm) (f := b) (q := q) G5.2.2.1.1 (by rw [G5.2.2.1.2.1]; exact Nat.le_refl _) (by rw [G5.2.2.1.2.1]; omega) G5.2.2.1.2.2.2 (by rw [iw5]; exact h0) (by rw [iw5]; exact h1) (by rw [iw5]; exact h2) (by rw [iw5]; exact h3) (by omega) (by omega) (by omega) (by omega) hq5
    rw [e6, bd_S]
    have F6 : FRt M5 M6 := ⟨fun c hc => ⟨(f6.1 c hc).1, (f6.1 c hc).2.1, fun _ _ => ⟨(f6.1 c hc).2.2.2.1, (f6.1 c hc).2.2.2.2⟩⟩, f6.2⟩
    refine r_da (BS_b G5.1 f6) (p_ck ⟨by omega, by omega⟩ ?_)
    refine r_made G5.1 hZ hx f6 H6 h6 (sumL_26 (by omega) (by omega) (by omega) (by omega)) (by omega) (fun M7 S7 F7 => ?_)
    refine r_da S7 (p_ck ⟨by omega, by omega⟩ ?_)
    refine r_app S7 (e := 1) (by decide) (by decide) (by omega) (fun M8 S8 F8 => ?_)
    refine fin M8 _ _ ?_ (FRt_t F3 (FRt_t F4 (FRt_t F5 (FRt_t F6 (FRt_t F7 F8))))) (by omega) (by omega)
    show BS a x (c + 61) (L ++ memT b F n ++ (sLs 92 ++ dgL g ++ sLs 93 ++ sumL q g nn mm b ++ sLs 80)) M8
    simp only [List.append_assoc] at S8 ⊢
    exact ⟨S8.1, by have := S8.2.1; omega, S8.2.2⟩
