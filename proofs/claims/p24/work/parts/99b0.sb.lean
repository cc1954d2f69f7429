/-! ## Pure: a StringBuilder's text -/
theorem sh_r0 (x : Int32) : x >>> ((0 : Int32) &&& 31) = x := by
  rw [show ((0 : Int32) &&& 31) = 0 by decide]
  simp
theorem sh_l0 (x : Int32) : x <<< ((0 : Int32) &&& 31) = x := by
  rw [show ((0 : Int32) &&& 31) = 0 by decide]
  simp
theorem nI_subz {a b : Nat} (ha : a < 2 ^ 30) (hb : b < 2 ^ 30) : nI a - nI b ≤ 0 ↔ a ≤ b := by
  have e1 : (nI a - nI b).toInt = (a : Int) - (b : Int) := by
    have h1 : (nI a).toInt = (a : Int) := Int32.toInt_ofNat_of_lt (by omega)
    have h2 : (nI b).toInt = (b : Int) := Int32.toInt_ofNat_of_lt (by omega)
    rw [Int32.toInt_sub, h1, h2, Int.bmod_def]
    omega
  have e0 : (0 : Int32).toInt = 0 := by decide
  rw [Int32.le_iff_toInt_le, e1, e0]
  omega
theorem imax_nI {a b : Nat} (ha : a < 2 ^ 31) (hb : b < 2 ^ 31) : imax (nI a) (nI b) = nI (max a b) := by
  unfold imax
  by_cases h : a < b
  · rw [if_pos ((nI_ltI ha hb).mpr h), Nat.max_eq_right (by omega)]
  · rw [if_neg (fun z => h ((nI_ltI ha hb).mp z)), Nat.max_eq_left (by omega)]
/-- a byte -/
def byt (x : Int32) : Prop := i2bV x = x
/-- at a stands a StringBuilder of the text L, its bytes at v -/
def SBv (a v : Nat) (L : List Nat) (M : gMem) : Prop :=
  (mT M a = 13 ∧ mR M a 0 = some v ∧ mI M a 1 = 0 ∧ mI M a 3 = nI L.length) ∧ (mT M v = 22 ∧ L.length ≤ mL M v ∧ mL M v ≤ 2400) ∧ (a < v ∧ v < mN M) ∧
  (∀ i, i < L.length → mI M v i = nI (L.getD i 0)) ∧ ∀ i, i < mL M v → byt (mI M v i)
/-- M' is M but at a and v, and what is new -/
def FRv (a v : Nat) (M M' : gMem) : Prop :=
  (∀ c, c < mN M → mT M' c = mT M c ∧ mL M' c = mL M c ∧ mJ M' c = mJ M c) ∧ (∀ c, c < mN M → c ≠ a → c ≠ v → mI M' c = mI M c ∧ mR M' c = mR M c) ∧ mN M ≤ mN M'
theorem FRv_rf (a v : Nat) (M : gMem) : FRv a v M M := ⟨fun _ _ => ⟨rfl, rfl, rfl⟩, fun _ _ _ _ => ⟨rfl, rfl⟩, Nat.le_refl _⟩
/-- what follows: the bytes may lie where they lay, or be new -/
theorem FRv_tr {a v v' : Nat} {M M1 M2 : gMem} (h1 : FRv a v M M1) (h2 : FRv a v' M1 M2) (hv : v' = v ∨ mN M ≤ v') : FRv a v M M2 := by
  obtain ⟨a1, a2, a3⟩ := h1
  obtain ⟨b1, b2, b3⟩ := h2
  refine ⟨fun c hc => ?_, fun c hc h3 h4 => ?_, Nat.le_trans a3 b3⟩
  · obtain ⟨x1, x2, x3⟩ := a1 c hc
    obtain ⟨y1, y2, y3⟩ := b1 c (by omega)
    exact ⟨y1.trans x1, y2.trans x2, y3.trans x3⟩
  · obtain ⟨x1, x2⟩ := a2 c hc h3 h4
    obtain ⟨y1, y2⟩ := b2 c (by omega) h3 (by rcases hv with h | h <;> omega)
    exact ⟨y1.trans x1, y2.trans x2⟩
/-- room for x bytes -/
theorem sb_ens {Z : Nat → Nat} {a v x : Nat} {L : List Nat} {M : gMem} (S : SBv a v L M) (hx : x ≤ 1199) : ∃ v' M', f_J5_ensureCapacityInternal_d00df Z M a (nI x) = some ((), M') ∧ SBv a v' L M' ∧ x ≤ mL M' v' ∧ FRv a v M M' ∧ (v' = v ∨ mN M ≤ v') ∧ mN M' ≤ mN M + 1 := by
  have S0 := S
  obtain ⟨⟨t1, r1, c1, n1⟩, ⟨t2, l1, l2⟩, ⟨o1, o2⟩, b1, b2⟩ := S
  unfold f_J5_ensureCapacityInternal_d00df b_J5_ensureCapacityInternal_d00df_0 b_J5_ensureCapacityInternal_d00df_38
  rw [ck_t t1, dr_s r1, ck_t t2, c1, sh_r0]
  by_cases h : x ≤ mL M v
  · rw [if_pos (show nI x - Int32.ofNat (mL M v) ≤ 0 from (nI_subz (by omega) (by omega)).mpr h)]
    exact ⟨v, M, rfl, S0, h, FRv_rf a v M, .inl rfl, Nat.le_succ _⟩
  · rw [if_neg (show ¬ nI x - Int32.ofNat (mL M v) ≤ 0 from fun z => h ((nI_subz (by omega) (by omega)).mp z))]
    generalize hm : mL M v = m at *
    have hr : nI m + imax (nI x - nI m) (nI m + 2) = nI (m + max (x - m) (m + 2)) := by
      rw [nI_sub (by omega), show (nI m + 2 : Int32) = nI (m + 2) from nI_add m 2, imax_nI (by omega) (by omega), nI_add]
    have hc : m + max (x - m) (m + 2) ≤ 2400 := by omega
    generalize hR : m + max (x - m) (m + 2) = r at hr hc
    have hrm : m < r := by omega
    have hxr : x ≤ r := by omega
    have e1 : f_J5_newCapacity_0f7a4 M a (nI x) = some (nI r, M) := by
      unfold f_J5_newCapacity_0f7a4 b_J5_newCapacity_0f7a4_0 f_J8_newLength_cabcc b_J8_newLength_cabcc_0
      rw [ck_t t1, dr_s r1, ck_t t2, c1, sh_l0, sh_l0, hm]
      rw [show (Int32.ofNat m + imax (nI x - Int32.ofNat m) (Int32.ofNat m + 2)) = nI r from hr]
      rw [if_neg (show ¬ nI r ≤ (0 : Int32) from fun z => by have := (nI_leI (a := r) (b := 0) (by omega) (by omega)).mp z; omega), if_neg (show ¬ (2147483639 : Int32) < nI r from fun z => by have := (nI_ltI (a := 2147483639) (b := r) (by omega) (by omega)).mp z; omega), bd_S, if_neg (show ¬ nI r = (2147483647 : Int32) from fun z => by have := (nI_eq (a := r) (b := 2147483647) (by omega) (by omega)).mp z; omega), ck_t t1, c1, sh_r0]
    rw [e1, bd_S, ck_t t1, c1, sh_l0, r1]
    -- the copy
    have ne1 : ¬ nI r = Int32.ofNat (mL M v) := fun z => by
      rw [hm] at z
      have := (nI_eq (a := r) (b := m) (by omega) (by omega)).mp z; omega
    have hvN : v ≠ mN M := by omega
    have haN : a ≠ mN M := by omega
    have nT : mT (nW M 22 r) v = 22 := by show (if v = mN M then _ else mT M v) = 22; rw [if_neg hvN]; exact t2
    have nL : mL (nW M 22 r) v = m := by show (if v = mN M then _ else mL M v) = m; rw [if_neg hvN]; exact hm
    have nTN : mT (nW M 22 r) (mN M) = 22 := if_pos rfl
    have nLN : mL (nW M 22 r) (mN M) = r := if_pos rfl
    have e2 : f_J7_copyOf_9075b Z M (some v) (nI r) = some (some (mN M), cpI (nW M 22 r) v 0 (mN M) 0 m) := by
      unfold f_J7_copyOf_9075b b_J7_copyOf_9075b_0
      rw [dr_S, ck_t t2, if_neg ne1, ck_t (nI_pos (by omega)), nI_clamp (by omega), ck_t hc, lw_S, ck_t nT, ck_t nTN, nL, nLN]
      rw [show imin (Int32.ofNat m) (nI r) = nI m from (imin_nI (by omega) (by omega)).trans (by rw [Nat.min_eq_left (by omega)]), ck_t (nI_pos (by omega)), nI_clamp (by omega)]
      rw [ck_t (show ((0 : Int32)).toNatClampNeg + m ≤ m from by show 0 + m ≤ m; omega), ck_t (show ((0 : Int32)).toNatClampNeg + m ≤ r from by show 0 + m ≤ r; omega), ck_t (fun i hi => by
        have e0 : mI (nW M 22 r) v = mI M v := up1_o hvN
        rw [e0]
        exact b2 _ (by show 0 + i < m; omega)), lw_S]
      rfl
    rw [e2, bd_S]
    have pT : mT (cpI (nW M 22 r) v 0 (mN M) 0 m) a = 13 := by show (if a = mN M then _ else mT M a) = 13; rw [if_neg haN]; exact t1
    rw [ck_t pT, lw_S]
    refine ⟨mN M, _, rfl, ⟨⟨pT, ?_, ?_, ?_⟩, ⟨nTN, ?_, ?_⟩, ⟨by omega, by show mN M < mN M + 1; omega⟩, fun i hi => ?_, fun i hi => ?_⟩, ?_, ⟨fun c hc => ?_, fun c hc h3 h4 => ?_, by show mN M ≤ mN M + 1; omega⟩, .inr (Nat.le_refl _), by show mN M + 1 ≤ mN M + 1; omega⟩
    · exact up2_eq _ _ _ _
    · show up1 (up1 (mI M) (mN M) (fun _ => 0)) (mN M) _ a 1 = 0
      rw [up1_o haN, up1_o haN]; exact c1
    · show up1 (up1 (mI M) (mN M) (fun _ => 0)) (mN M) _ a 3 = _
      rw [up1_o haN, up1_o haN]; exact n1
    · show L.length ≤ mL (nW M 22 r) (mN M)
      rw [nLN]; omega
    · show mL (nW M 22 r) (mN M) ≤ 2400
      rw [nLN]; exact hc
    · show up1 (up1 (mI M) (mN M) (fun _ => 0)) (mN M) (va_cpy (up1 (mI M) (mN M) (fun _ => 0) v) (up1 (mI M) (mN M) (fun _ => 0) (mN M)) 0 0 m) (mN M) i = _
      rw [up1_e, up1_o hvN]
      unfold va_cpy
      rw [if_pos (by omega), Nat.sub_zero, Nat.zero_add]
      exact b1 i hi
    · have hi : i < r := by rw [← nLN]; exact hi
      show byt (up1 (up1 (mI M) (mN M) (fun _ => 0)) (mN M) (va_cpy (up1 (mI M) (mN M) (fun _ => 0) v) (up1 (mI M) (mN M) (fun _ => 0) (mN M)) 0 0 m) (mN M) i)
      rw [up1_e, up1_o hvN, up1_e]
      unfold va_cpy
      by_cases c : 0 ≤ i ∧ i < 0 + m
      · rw [if_pos c, Nat.sub_zero, Nat.zero_add]
        exact b2 i (by omega)
      · rw [if_neg c]; exact (show i2bV 0 = 0 by decide)
    · show x ≤ mL (nW M 22 r) (mN M)
      rw [nLN]; exact hxr
    · have : c ≠ mN M := by omega
      exact ⟨up1_o this, up1_o this, up1_o this⟩
    · have h5 : c ≠ mN M := by omega
      refine ⟨?_, ?_⟩
      · show up1 (up1 (mI M) (mN M) (fun _ => 0)) (mN M) _ c = mI M c
        rw [up1_o h5, up1_o h5]
      · show up2 (up1 (mR M) (mN M) (fun _ => none)) a 0 _ c = mR M c
        funext j
        rw [up2_ne (.inl h3), up1_o h5]
/-- the bytes of our constants as numbers -/
def sLs (j : Nat) : List Nat := (gSb.getD j []).map Int32.toNatClampNeg
theorem sLs_f : ∀ j, j < 94 → (sLs j).length = sLn j ∧ sLn j ≤ 23 ∧ (∀ i, i < sLn j → sBy j i = nI ((sLs j).getD i 0) ∧ i2bV (sBy j i) = sBy j i) := by decide +kernel
theorem c_coder {Z : Nat → Nat} {M : gMem} {j : Nat} (h : j < 94) : f_J0_coder_7d493 Z M j = some (0, M) := by
  unfold f_J0_coder_7d493 b_J0_coder_7d493_0 b_J0_coder_7d493_14
  rw [ck_t h, ck_t (by decide)]
theorem c_len {Z : Nat → Nat} {M : gMem} {j : Nat} (h : j < 94) : f_J0_length_8abf5 Z M j = some (nI (sLn j), M) := by
  unfold f_J0_length_8abf5 b_J0_length_8abf5_0
  rw [ck_t h, c_coder h, bd_S, sh_r0]
  rfl
/-- a constant behind a text -/
theorem sb_put {Z : Nat → Nat} {a v j : Nat} {L : List Nat} {M : gMem} (S : SBv a v L M) (hj : j < 94) (hl : L.length + sLn j ≤ mL M v) : ∃ M', f_J5_putStringAt_47b60_S Z M a (nI L.length) j = some ((), M') ∧ M' = cpT M (sBy j) 0 v L.length (sLn j) := by
  obtain ⟨⟨t1, r1, c1, n1⟩, ⟨t2, l1, l2⟩, ⟨o1, o2⟩, b1, b2⟩ := S
  refine ⟨_, ?_, rfl⟩
  unfold f_J5_putStringAt_47b60_S b_J5_putStringAt_47b60_S_0 f_J5_inflateIfNeededFor_a7421_S b_J5_inflateIfNeededFor_a7421_S_0 b_J5_inflateIfNeededFor_a7421_S_21
  rw [ck_t t1, ck_t t1, ck_t hj, c_coder hj, bd_S, c1, if_pos rfl, bd_S, ck_t t1, ck_t hj, r1, c1]
  unfold f_J0_getBytes_840e7_S b_J0_getBytes_840e7_S_0
  have hs := (sLs_f j hj).2.1
  rw [ck_t hj, c_coder hj, bd_S, if_pos rfl, dr_S, ck_t t2, sh_l0, ck_t (nI_pos (by omega)), ck_t (show ¬ Int32.ofNat (sLn j) < 0 from nI_pos (by omega))]
  rw [show (Int32.ofNat (sLn j)).toNatClampNeg = sLn j from nI_clamp (by omega), nI_clamp (by omega)]
  rw [ck_t (show ((0 : Int32)).toNatClampNeg + sLn j ≤ sLn j from by show 0 + sLn j ≤ _; omega), ck_t hl, lw_S, bd_S]
  rfl
theorem sb_app {Z : Nat → Nat} {a v j : Nat} {L : List Nat} {M : gMem} (S : SBv a v L M) (hj : j < 94) (hl : L.length + (sLs j).length ≤ 1199) : ∃ v' M', f_J4_append_15ec4_S Z M a j = some (some a, M') ∧ SBv a v' (L ++ sLs j) M' ∧ FRv a v M M' ∧ (v' = v ∨ mN M ≤ v') ∧ mN M' ≤ mN M + 1 := by
  obtain ⟨f1, f2, f3⟩ := sLs_f j hj
  obtain ⟨v', M1, g1, S1, g3, F1, g5, g6⟩ := sb_ens (Z := Z) (x := L.length + sLn j) S (by omega)
  obtain ⟨M2, p1, p2⟩ := sb_put (Z := Z) S1 hj g3
  have S2 := S1
  obtain ⟨⟨t1, r1, c1, n1⟩, -, -, -, -⟩ := S
  obtain ⟨⟨u1, u2, u3, u4⟩, ⟨u5, u6, u7⟩, ⟨u8, u9⟩, u10, u11⟩ := S1
  have hav : a ≠ v' := by omega
  have e3 : mI M2 a 3 = nI L.length := by rw [p2]; show up1 (mI M1) v' _ a 3 = _; rw [up1_o hav]; exact u4
  refine ⟨v', wI M2 a 3 (nI (L.length + sLn j)), ?_, ?_, ?_, g5, ?_⟩
  · unfold f_J4_append_15ec4_S b_J4_append_15ec4_S_0 f_J5_append_cf1ce_S b_J5_append_cf1ce_S_0
    rw [ck_t t1, ck_t hj, c_len hj, bd_S, ck_t t1, n1, nI_add, g1, bd_S, ck_t u1, u4, p1, bd_S, ck_t (show mT M2 a = 13 by rw [p2]; exact u1), e3, nI_add, lw_S, bd_S]
  · have e0 : mI M2 v' = va_cpy (sBy j) (mI M1 v') 0 L.length (sLn j) := by rw [p2]; exact up1_e _ _ _
    refine ⟨⟨by rw [p2]; exact u1, by rw [p2]; exact u2, ?_, ?_⟩, ⟨by rw [p2]; exact u5, ?_, by rw [p2]; exact u7⟩, ⟨u8, by rw [p2]; exact u9⟩, fun i hi => ?_, fun i hi => ?_⟩
    · show up2 (mI M2) a 3 _ a 1 = 0
      rw [up2_ne (.inr (by decide)), p2]
      show up1 (mI M1) v' _ a 1 = 0
      rw [up1_o hav]; exact u3
    · show up2 (mI M2) a 3 _ a 3 = _
      rw [up2_eq, List.length_append, f1]
    · rw [List.length_append, f1, p2]; exact g3
    · rw [List.length_append, f1] at hi
      show up2 (mI M2) a 3 _ v' i = _
      rw [up2_ne (.inl (Ne.symm hav)), e0]
      unfold va_cpy
      by_cases c : i < L.length
      · rw [if_neg (by omega), u10 i c, List.getD_eq_getElem?_getD, List.getD_eq_getElem?_getD, List.getElem?_append_left c]
      · rw [if_pos (by omega), Nat.zero_add, (f3 (i - L.length) (by omega)).1, List.getD_eq_getElem?_getD, List.getD_eq_getElem?_getD, List.getElem?_append_right (by omega)]
    · have hi' : i < mL M1 v' := by
        have : mL (wI M2 a 3 (nI (L.length + sLn j))) v' = mL M1 v' := by rw [p2]; rfl
        rw [this] at hi; exact hi
      show byt (up2 (mI M2) a 3 _ v' i)
      rw [up2_ne (.inl (Ne.symm hav)), e0]
      unfold va_cpy
      by_cases c : L.length ≤ i ∧ i < L.length + sLn j
      · rw [if_pos c, Nat.zero_add]
        exact (f3 (i - L.length) (by omega)).2
      · rw [if_neg c]
        exact u11 i hi'
  · refine FRv_tr F1 (v' := v') ⟨fun c _ => by rw [p2]; exact ⟨rfl, rfl, rfl⟩, fun c _ h3 h4 => ⟨?_, by rw [p2]; rfl⟩, by rw [p2]; exact Nat.le_refl _⟩ g5
    show up2 (mI M2) a 3 _ c = mI M1 c
    funext q
    rw [up2_ne (.inl h3), p2]
    show up1 (mI M1) v' _ c q = _
    rw [up1_o h4]
  · rw [p2]; exact g6
