/-! ## Pure: a text made a String, and a String behind a text -/
/-- at s stands a String of the bytes L, that lie at w -/
def STR (s w : Nat) (L : List Nat) (M : gMem) : Prop :=
  (mT M s = 12 ∧ mR M s 0 = some w ∧ mI M s 1 = 0) ∧ (mT M w = 22 ∧ mL M w = L.length) ∧ (s < w ∧ w < mN M) ∧ L.length ≤ 2400 ∧ ∀ i, i < L.length → mI M w i = nI (L.getD i 0) ∧ byt (mI M w i)
/-- M' is M and something new behind it -/
def FRn (M M' : gMem) : Prop := (∀ c, c < mN M → mT M' c = mT M c ∧ mL M' c = mL M c ∧ mJ M' c = mJ M c ∧ mI M' c = mI M c ∧ mR M' c = mR M c) ∧ mN M ≤ mN M'
theorem FRn_v {a v : Nat} {M M' : gMem} (h : FRn M M') : FRv a v M M' := ⟨fun c hc => ⟨(h.1 c hc).1, (h.1 c hc).2.1, (h.1 c hc).2.2.1⟩, fun c hc _ _ => ⟨(h.1 c hc).2.2.2.1, (h.1 c hc).2.2.2.2⟩, h.2⟩
theorem FRn_tr {M M1 M2 : gMem} (h1 : FRn M M1) (h2 : FRn M1 M2) : FRn M M2 := ⟨fun c hc => by
    obtain ⟨x1, x2, x3, x4, x5⟩ := h1.1 c hc
    obtain ⟨y1, y2, y3, y4, y5⟩ := h2.1 c (by have := h1.2; omega)
    exact ⟨y1.trans x1, y2.trans x2, y3.trans x3, y4.trans x4, y5.trans x5⟩, Nat.le_trans h1.2 h2.2⟩
theorem SBv_n {a v : Nat} {L : List Nat} {M M' : gMem} (S : SBv a v L M) (h : FRn M M') : SBv a v L M' := by
  obtain ⟨⟨t1, r1, c1, n1⟩, ⟨t2, l1, l2⟩, ⟨o1, o2⟩, b1, b2⟩ := S
  obtain ⟨x1, x2, x3, x4, x5⟩ := h.1 a (by omega)
  obtain ⟨y1, y2, y3, y4, y5⟩ := h.1 v o2
  exact ⟨⟨by rw [x1]; exact t1, by rw [x5]; exact r1, by rw [x4]; exact c1, by rw [x4]; exact n1⟩, ⟨by rw [y1]; exact t2, by rw [y2]; exact l1, by rw [y2]; exact l2⟩, ⟨o1, Nat.lt_of_lt_of_le o2 h.2⟩, fun i hi => by rw [y4]; exact b1 i hi, fun i hi => by rw [y4]; exact b2 i (by rw [← y2]; exact hi)⟩
theorem STR_v {s w a v : Nat} {L : List Nat} {M M' : gMem} (S : STR s w L M) (h : FRv a v M M') (h1 : s ≠ a ∧ s ≠ v) (h2 : w ≠ a ∧ w ≠ v) : STR s w L M' := by
  obtain ⟨⟨t1, r1, c1⟩, ⟨t2, l1⟩, ⟨o1, o2⟩, hl, b⟩ := S
  obtain ⟨f1, f2, f3⟩ := h
  obtain ⟨x1, x2, x3⟩ := f1 s (by omega)
  obtain ⟨y1, y2, y3⟩ := f1 w o2
  obtain ⟨z1, z2⟩ := f2 s (by omega) h1.1 h1.2
  obtain ⟨q1, q2⟩ := f2 w o2 h2.1 h2.2
  exact ⟨⟨by rw [x1]; exact t1, by rw [z2]; exact r1, by rw [z1]; exact c1⟩, ⟨by rw [y1]; exact t2, by rw [y2]; exact l1⟩, ⟨o1, by omega⟩, hl, fun i hi => by rw [q1]; exact b i hi⟩
theorem sb_str {Z : Nat → Nat} {a v : Nat} {L : List Nat} {M : gMem} (S : SBv a v L M) : ∃ M', f_J4_toString_0e30d Z M a = some (some (mN M), M') ∧ STR (mN M) (mN M + 1) L M' ∧ FRn M M' ∧ mN M' = mN M + 2 := by
  obtain ⟨⟨t1, r1, c1, n1⟩, ⟨t2, l1, l2⟩, ⟨o1, o2⟩, b1, b2⟩ := S
  have haN : a ≠ mN M := by omega
  have hvN : v ≠ mN M := by omega
  generalize hM9 : wI (nW M 12 0) (mN M) 1 0 = M9
  have k1 : mT M9 a = 13 ∧ mT M9 v = 22 ∧ mT M9 (mN M) = 12 ∧ mL M9 v = mL M v ∧ mN M9 = mN M + 1 ∧ mI M9 v = mI M v ∧ mI M9 (mN M) 1 = 0 := by
    rw [← hM9]
    refine ⟨?_, ?_, if_pos rfl, ?_, rfl, ?_, up2_eq _ _ _ _⟩
    · show (if a = mN M then _ else mT M a) = 13; rw [if_neg haN]; exact t1
    · show (if v = mN M then _ else mT M v) = 22; rw [if_neg hvN]; exact t2
    · exact up1_o hvN
    · funext j
      show up2 (up1 (mI M) (mN M) _) (mN M) 1 0 v j = _
      rw [up2_ne (.inl hvN), up1_o hvN]
  have k2 : ∀ c, c < mN M → mT M9 c = mT M c ∧ mL M9 c = mL M c ∧ mJ M9 c = mJ M c ∧ mI M9 c = mI M c ∧ mR M9 c = mR M c := fun c hc => by
    have h : c ≠ mN M := by omega
    rw [← hM9]
    refine ⟨up1_o h, up1_o h, up1_o h, ?_, up1_o h⟩
    funext j
    show up2 (up1 (mI M) (mN M) _) (mN M) 1 0 c j = _
    rw [up2_ne (.inl h), up1_o h]
  obtain ⟨p1, p2, p3, p4, p5, p6, p7⟩ := k1
  -- the bytes copied, this way or that
  have key : ∃ M11, f_J7_copyOfRange_39247 Z M9 (some v) 0 (nI L.length) = some (some (mN M + 1), M11) ∧ mT M11 (mN M + 1) = 22 ∧ mL M11 (mN M + 1) = L.length ∧ (∀ i, i < L.length → mI M11 (mN M + 1) i = mI M v i) ∧ FRn M9 M11 ∧ mN M11 = mN M + 2 := by
    unfold f_J7_copyOfRange_39247 b_J7_copyOfRange_39247_0 b_J7_copyOfRange_39247_10
    rw [if_pos rfl, dr_S, ck_t p2, p4]
    by_cases c : L.length = mL M v
    · rw [if_pos (show nI L.length = Int32.ofNat (mL M v) by rw [c]; rfl), ck_t l2, ck_t (by rw [p6]; exact b2), lw_S]
      have q1 : mT (clM M9 v) (mN M9) = 22 := if_pos rfl
      rw [ck_t q1, p5]
      refine ⟨_, rfl, by rw [← p5]; exact q1, ?_, fun i _ => ?_, ⟨fun d hd => ?_, ?_⟩, ?_⟩
      · rw [← p5]
        show up1 (mL M9) (mN M9) (mL M9 v) (mN M9) = _
        rw [up1_e, p4, c]
      · rw [← p5]
        show up1 (mI M9) (mN M9) (mI M9 v) (mN M9) i = _
        rw [up1_e, p6]
      · have h : d ≠ mN M9 := by omega
        exact ⟨up1_o h, up1_o h, up1_o h, up1_o h, up1_o h⟩
      · show mN M9 ≤ mN M9 + 1; omega
      · show mN M9 + 1 = _; omega
    · rw [if_neg (show ¬ nI L.length = Int32.ofNat (mL M v) from fun z => c ((nI_eq (by omega) (by omega)).mp z))]
      unfold f_J7_copyOfRangeByte_39247 b_J7_copyOfRangeByte_39247_0 f_J7_checkLength_df160 b_J7_checkLength_df160_0
      have s0 : nI L.length - (0 : Int32) = nI L.length := by
        have := nI_sub (a := L.length) (b := 0) (Nat.zero_le _)
        exact this
      have s1 : Int32.ofNat (mL M v) - (0 : Int32) = nI (mL M v) := by
        have := nI_sub (a := mL M v) (b := 0) (Nat.zero_le _)
        exact this
      have hvN9 : v ≠ mN M9 := by omega
      have q1 : mT (nW M9 22 L.length) v = 22 := by show (if v = mN M9 then _ else mT M9 v) = 22; rw [if_neg hvN9]; exact p2
      have q2 : mT (nW M9 22 L.length) (mN M9) = 22 := if_pos rfl
      have q3 : mL (nW M9 22 L.length) v = mL M v := by show (if v = mN M9 then _ else mL M9 v) = _; rw [if_neg hvN9]; exact p4
      have q4 : mL (nW M9 22 L.length) (mN M9) = L.length := if_pos rfl
      rw [if_pos (show (0 : Int32) ≤ nI L.length from nI_pos' (by omega)), bd_S, s0, ck_t (nI_pos (by omega)), nI_clamp (by omega), ck_t (by omega), lw_S, dr_S, ck_t q1, ck_t q2, ck_t (by decide), q3, s1, imin_nI (by omega) (by omega), Nat.min_eq_right (by omega), ck_t (nI_pos (by omega)), nI_clamp (by omega), q4, ck_t (show ((0 : Int32)).toNatClampNeg + L.length ≤ mL M v from by show 0 + L.length ≤ _; omega), ck_t (show ((0 : Int32)).toNatClampNeg + L.length ≤ L.length from by show 0 + L.length ≤ _; omega), ck_t (fun i hi => by
        have e0 : mI (nW M9 22 L.length) v = mI M v := (up1_o hvN9).trans p6
        rw [e0, show ((0 : Int32)).toNatClampNeg + i = i from Nat.zero_add i]
        exact b2 i (by omega)), lw_S, bd_S, p5]
      refine ⟨_, rfl, by rw [← p5]; exact q2, by rw [← p5]; exact q4, fun i hi => ?_, ⟨fun d hd => ?_, ?_⟩, ?_⟩
      · rw [← p5]
        show up1 (up1 (mI M9) (mN M9) (fun _ => 0)) (mN M9) (va_cpy (up1 (mI M9) (mN M9) (fun _ => 0) v) _ 0 0 L.length) (mN M9) i = _
        rw [up1_e, up1_o hvN9, p6]
        unfold va_cpy
        rw [if_pos (by omega), Nat.sub_zero, Nat.zero_add]
      · have h : d ≠ mN M9 := by omega
        refine ⟨up1_o h, up1_o h, up1_o h, ?_, up1_o h⟩
        show up1 (up1 (mI M9) (mN M9) (fun _ => 0)) (mN M + 1) _ d = _
        rw [up1_o (by omega), up1_o h]
      · show mN M9 ≤ mN M9 + 1; omega
      · show mN M9 + 1 = _; omega
  obtain ⟨M11, g1, g2, g3, g4, g5, g6⟩ := key
  obtain ⟨x1, x2, x3, x4, x5⟩ := g5.1 (mN M) (by omega)
  have hne : mN M + 1 ≠ mN M := by omega
  refine ⟨wR M11 (mN M) 0 (some (mN M + 1)), ?_, ⟨⟨by show mT M11 _ = 12; rw [x1]; exact p3, up2_eq _ _ _ _, by show mI M11 _ 1 = 0; rw [x4]; exact p7⟩, ⟨g2, g3⟩, ⟨by omega, by show mN M + 1 < mN M11; omega⟩, by omega, fun i hi => ?_⟩, ⟨fun c hc => ?_, by show mN M ≤ mN M11; omega⟩, g6⟩
  · unfold f_J4_toString_0e30d b_J4_toString_0e30d_0 f_J0_init_81219 b_J0_init_81219_0 f_J0_init_db425 b_J0_init_db425_0 f_J5_getValue_6d5f1 b_J5_getValue_6d5f1_0 f_J4_length_8abf5 b_J4_length_8abf5_0 f_J5_length_8abf5 b_J5_length_8abf5_0 f_J5_isLatin1_aae02 b_J5_isLatin1_aae02_0 b_J5_isLatin1_aae02_18
    have n1' : mT (nW M 12 0) a = 13 := by show (if a = mN M then _ else mT M a) = 13; rw [if_neg haN]; exact t1
    have n2 : mI (nW M 12 0) a = mI M a := up1_o haN
    have n3 : mR (nW M 12 0) a = mR M a := up1_o haN
    have n4 : mT (nW M 12 0) (mN M) = 12 := if_pos rfl
    rw [lw_S, dr_S, ck_t n1', ck_t n1', bd_S, ck_t n1', ck_t n1', ck_t n1', bd_S, bd_S, ck_t n1', ck_t n1', if_pos (by rw [n2]; exact c1), ck_t (.inr rfl), bd_S, if_neg (by decide), ck_t n4, lw_S, hM9, n3, n2, r1, n1, g1, bd_S, ck_t (by rw [x1]; exact p3), lw_S, bd_S, bd_S]
  · show mI M11 (mN M + 1) i = _ ∧ byt (mI M11 (mN M + 1) i)
    rw [g4 i hi]
    exact ⟨b1 i hi, b2 i (by omega)⟩
  · obtain ⟨y1, y2, y3, y4, y5⟩ := g5.1 c (by omega)
    obtain ⟨z1, z2, z3, z4, z5⟩ := k2 c hc
    have h : c ≠ mN M := by omega
    exact ⟨y1.trans z1, y2.trans z2, y3.trans z3, y4.trans z4, by
      funext j
      show up2 (mR M11) (mN M) 0 _ c j = _
      rw [up2_ne (.inl h), y5, z5]⟩
/-- a String that was made, behind a text -/
theorem sb_apr {Z : Nat → Nat} {a v s w : Nat} {L K : List Nat} {M : gMem} (S : SBv a v L M) (Q : STR s w K M) (h1 : s ≠ a ∧ s ≠ v) (h2 : w ≠ a ∧ w ≠ v) (hl : L.length + K.length ≤ 1199) : ∃ v' M', f_J4_append_15ec4_r Z M a (some s) = some (some a, M') ∧ SBv a v' (L ++ K) M' ∧ FRv a v M M' ∧ (v' = v ∨ mN M ≤ v') ∧ mN M' ≤ mN M + 1 := by
  obtain ⟨v', M1, g1, S1, g3, F1, g5, g6⟩ := sb_ens (Z := Z) (x := L.length + K.length) S (by omega)
  have Q1 : STR s w K M1 := STR_v Q F1 h1 h2
  obtain ⟨⟨t1, r1, c1, n1⟩, -, -, -, -⟩ := S
  obtain ⟨⟨u1, u2, u3, u4⟩, ⟨u5, u6, u7⟩, ⟨u8, u9⟩, u10, u11⟩ := S1
  obtain ⟨⟨q1, q2, q3⟩, ⟨q4, q5⟩, ⟨q6, q7⟩, q8, q9⟩ := Q
  obtain ⟨⟨k1, k2, k3⟩, ⟨k4, k5⟩, ⟨k6, k7⟩, k8, k9⟩ := Q1
  have hav : a ≠ v' := by omega
  have hwv : w ≠ v' := by rcases g5 with h | h <;> omega
  have len_r : ∀ {M : gMem}, mT M s = 12 → mR M s 0 = some w → mI M s 1 = 0 → mT M w = 22 → mL M w = K.length → f_J0_length_8abf5_r Z M s = some (nI K.length, M) := fun {M} e1 e2 e3 e4 e5 => by
    unfold f_J0_length_8abf5_r b_J0_length_8abf5_r_0 f_J0_coder_7d493_r b_J0_coder_7d493_r_0
    rw [ck_t e1, dr_s e2, ck_t e4, ck_t e1, e3, ck_t (by decide), bd_S, sh_r0, e5]
    rfl
  have cod : f_J0_coder_7d493_r Z M1 s = some (0, M1) := by
    unfold f_J0_coder_7d493_r b_J0_coder_7d493_r_0
    rw [ck_t k1, k3, ck_t (by decide)]
  generalize hM2 : cpI M1 w 0 v' L.length K.length = M2
  have e0 : mI M2 v' = va_cpy (mI M1 w) (mI M1 v') 0 L.length K.length := by rw [← hM2]; exact up1_e _ _ _
  have e9 : mT M2 = mT M1 ∧ mL M2 = mL M1 ∧ mR M2 = mR M1 ∧ mJ M2 = mJ M1 ∧ mN M2 = mN M1 := by rw [← hM2]; exact ⟨rfl, rfl, rfl, rfl, rfl⟩
  have e8 : ∀ c, c ≠ v' → mI M2 c = mI M1 c := fun c hc => by rw [← hM2]; exact up1_o hc
  have put : f_J5_putStringAt_47b60_r Z M1 a (nI L.length) (some s) = some ((), M2) := by
    unfold f_J5_putStringAt_47b60_r b_J5_putStringAt_47b60_r_0 f_J5_inflateIfNeededFor_a7421_r b_J5_inflateIfNeededFor_a7421_r_0 b_J5_inflateIfNeededFor_a7421_r_21
    rw [ck_t u1, ck_t u1, dr_S, ck_t k1, cod, bd_S, u3, if_pos rfl, bd_S, ck_t u1, dr_S, ck_t k1, u2, u3]
    unfold f_J0_getBytes_840e7_r b_J0_getBytes_840e7_r_0
    rw [ck_t k1, cod, bd_S, if_pos rfl, ck_t k1, dr_s k2, ck_t k4, dr_S, ck_t u5, sh_l0, ck_t (nI_pos (by omega)), k5, ck_t (show ¬ Int32.ofNat K.length < 0 from nI_pos (by omega))]
    rw [show (Int32.ofNat K.length).toNatClampNeg = K.length from nI_clamp (by omega), nI_clamp (by omega)]
    rw [ck_t (show ((0 : Int32)).toNatClampNeg + K.length ≤ K.length from by show 0 + K.length ≤ _; omega), ck_t g3, ck_t (fun i hi => by
      rw [show ((0 : Int32)).toNatClampNeg + i = i from Nat.zero_add i]
      exact (k9 i hi).2), lw_S, bd_S]
    show some ((), cpI M1 w 0 v' L.length K.length) = _
    rw [hM2]
  refine ⟨v', wI M2 a 3 (nI (L.length + K.length)), ?_, ⟨⟨?_, ?_, ?_, ?_⟩, ⟨?_, ?_, ?_⟩, ⟨u8, ?_⟩, fun i hi => ?_, fun i hi => ?_⟩, ?_, g5, ?_⟩
  · unfold f_J4_append_15ec4_r b_J4_append_15ec4_r_0 f_J5_append_cf1ce_r b_J5_append_cf1ce_r_0
    rw [ck_t t1, if_neg (by simp), dr_S, ck_t q1, len_r q1 q2 q3 q4 q5, bd_S, ck_t t1, n1, nI_add, g1, bd_S, ck_t u1, u4, put, bd_S, ck_t (by rw [e9.1]; exact u1), e8 a hav, u4, nI_add, lw_S, bd_S]
  · show mT M2 a = 13; rw [e9.1]; exact u1
  · show mR M2 a 0 = _; rw [e9.2.2.1]; exact u2
  · show up2 (mI M2) a 3 _ a 1 = 0
    rw [up2_ne (.inr (by decide)), e8 a hav]; exact u3
  · show up2 (mI M2) a 3 _ a 3 = _
    rw [up2_eq, List.length_append]
  · show mT M2 v' = 22; rw [e9.1]; exact u5
  · show _ ≤ mL M2 v'; rw [e9.2.1, List.length_append]; exact g3
  · show mL M2 v' ≤ 2400; rw [e9.2.1]; exact u7
  · show v' < mN M2; rw [e9.2.2.2.2]; exact u9
  · rw [List.length_append] at hi
    show up2 (mI M2) a 3 _ v' i = _
    rw [up2_ne (.inl (Ne.symm hav)), e0]
    unfold va_cpy
    by_cases c : i < L.length
    · rw [if_neg (by omega), u10 i c, List.getD_eq_getElem?_getD, List.getD_eq_getElem?_getD, List.getElem?_append_left c]
    · rw [if_pos (by omega), Nat.zero_add, (k9 (i - L.length) (by omega)).1, List.getD_eq_getElem?_getD, List.getD_eq_getElem?_getD, List.getElem?_append_right (by omega)]
  · have hi' : i < mL M1 v' := by
      have : mL (wI M2 a 3 (nI (L.length + K.length))) v' = mL M1 v' := by show mL M2 v' = _; rw [e9.2.1]
      rw [this] at hi; exact hi
    show byt (up2 (mI M2) a 3 _ v' i)
    rw [up2_ne (.inl (Ne.symm hav)), e0]
    unfold va_cpy
    by_cases c : L.length ≤ i ∧ i < L.length + K.length
    · rw [if_pos c, Nat.zero_add]; exact (k9 (i - L.length) (by omega)).2
    · rw [if_neg c]; exact u11 i hi'
  · refine FRv_tr F1 (v' := v') ⟨fun c _ => ⟨by show mT M2 c = _; rw [e9.1], by show mL M2 c = _; rw [e9.2.1], by show mJ M2 c = _; rw [e9.2.2.2.1]⟩, fun c _ h3 h4 => ⟨?_, by show mR M2 c = _; rw [e9.2.2.1]⟩, by show mN M1 ≤ mN M2; rw [e9.2.2.2.2]; exact Nat.le_refl _⟩ g5
    show up2 (mI M2) a 3 _ c = mI M1 c
    funext q
    rw [up2_ne (.inl h3), e8 c h4]
  · show mN M2 ≤ _; rw [e9.2.2.2.2]; exact g6
