/-! ## Pure: a number behind a text -/
/-- the digits of a number below 1000 -/
def dgL (x : Nat) : List Nat := if x < 10 then [48 + x] else if x < 100 then [48 + x / 10, 48 + x % 10] else [48 + x / 100, 48 + x / 10 % 10, 48 + x % 10]
theorem dgL_l (x : Nat) : (dgL x).length = if x < 10 then 1 else if x < 100 then 2 else 3 := by
  unfold dgL
  split
  · rfl
  · split <;> rfl
theorem sz_f : ∀ x, x < 1000 → (¬ nI x < 0) ∧ ((-nI x ≤ (-10 : Int32)) ↔ 10 ≤ x) ∧ ((-nI x ≤ (10 : Int32) * -10) ↔ 100 ≤ x) ∧ ¬ (-nI x ≤ (10 : Int32) * (10 * -10)) := by decide +kernel
theorem c_size {M : gMem} {x : Nat} (h : x < 1000) : f_J6_stringSize_0f7a4 M (nI x) = some (nI (dgL x).length, M) := by
  obtain ⟨h1, h2, h3, h4⟩ := sz_f x h
  rw [dgL_l]
  unfold f_J6_stringSize_0f7a4 b_J6_stringSize_0f7a4_0 b_J6_stringSize_0f7a4_11 lp_J6_stringSize_0f7a4_16
  rw [if_neg h1]
  have st : ∀ (q k : Int32), ¬ (10 : Int32) ≤ k → bb_J6_stringSize_0f7a4_16 M (-nI x) 0 q k = if -nI x ≤ q then some (.inl (M, (10 : Int32) * q, k + 1)) else some (.inr (k + 0, M)) := fun q k hk => by
    unfold bb_J6_stringSize_0f7a4_16
    rw [if_neg hk]
    rfl
  by_cases c : x < 10
  · rw [if_pos c]
    refine lp_out ?_
    show bb_J6_stringSize_0f7a4_16 M (-nI x) 0 (-10) 1 = _
    rw [st _ _ (by decide), if_neg (fun z => by have := h2.mp z; omega)]
    rfl
  · rw [if_neg c]
    have e1 : (fun q : gMem × Int32 × Int32 => bb_J6_stringSize_0f7a4_16 q.1 (-nI x) 0 q.2.1 q.2.2) (M, (-10 : Int32), (1 : Int32)) = some (.inl (M, (10 : Int32) * -10, (1 : Int32) + 1)) := by
      show bb_J6_stringSize_0f7a4_16 M (-nI x) 0 (-10) 1 = _
      rw [st _ _ (by decide), if_pos (h2.mpr (by omega))]
    rw [lp_in e1]
    by_cases c2 : x < 100
    · rw [if_pos c2]
      refine lp_out ?_
      show bb_J6_stringSize_0f7a4_16 M (-nI x) 0 ((10 : Int32) * -10) ((1 : Int32) + 1) = _
      rw [st _ _ (by decide), if_neg (fun z => by have := h3.mp z; omega)]
      rfl
    · rw [if_neg c2]
      have e2 : (fun q : gMem × Int32 × Int32 => bb_J6_stringSize_0f7a4_16 q.1 (-nI x) 0 q.2.1 q.2.2) (M, (10 : Int32) * -10, (1 : Int32) + 1) = some (.inl (M, (10 : Int32) * (10 * -10), (1 : Int32) + 1 + 1)) := by
        show bb_J6_stringSize_0f7a4_16 M (-nI x) 0 ((10 : Int32) * -10) ((1 : Int32) + 1) = _
        rw [st _ _ (by decide), if_pos (h3.mpr (by omega))]
      rw [lp_in e2]
      refine lp_out ?_
      show bb_J6_stringSize_0f7a4_16 M (-nI x) 0 ((10 : Int32) * (10 * -10)) ((1 : Int32) + 1 + 1) = _
      rw [st _ _ (by decide), if_neg h4]
      rfl
theorem nbb_f : ∀ x, x < 128 → vp_nar .byte (nI x) = nI x ∧ i2bV (nI x) = nI x := by decide +kernel
theorem gD_f : ∀ x, x < 100 → gDo x = nI (48 + x % 10) ∧ gDt x = nI (48 + x / 10) := by decide +kernel
theorem ch_f : ∀ x, x < 1000 → (0 ≤ nI x) ∧ (((-100 : Int32) < -nI x) ↔ x < 100) ∧ (((-9 : Int32) ≤ -nI x) ↔ x < 10) ∧ (- -nI x = nI x) ∧ ((-nI x) / (100 : Int32) = -nI (x / 100)) ∧ (-nI (x / 100) * (100 : Int32) - -nI x = nI (x % 100)) := by decide +kernel
/-- the digits of x, written so that they end ahead of place e -/
def wD (M : gMem) (w e x : Nat) : gMem := if x < 10 then wI M w (e - 1) (nI (48 + x)) else if x < 100 then wI (wI M w (e - 1) (nI (48 + x % 10))) w (e - 2) (nI (48 + x / 10)) else wI (wI (wI M w (e - 1) (nI (48 + x % 10))) w (e - 2) (nI (48 + x / 10 % 10))) w (e - 3) (nI (48 + x / 100))
theorem nI_p1 {e : Nat} (h : 0 < e) : nI e + (-1 : Int32) = nI (e - 1) := nI_dn h
theorem c_chars {Z : Nat → Nat} {M : gMem} {x e w : Nat} (h : x < 1000) (hT : mT M w = 22) (he : (dgL x).length ≤ e) (hL : e ≤ mL M w) (hm : mL M w ≤ 2400) : ∃ r, f_J6_getChars_ba4f3 Z M (nI x) (nI e) (some w) = some (r, wD M w e x) := by
  rw [dgL_l] at he
  -- what is left below 100
  have tail : ∀ (M : gMem) (y e : Nat), y < 100 → mT M w = 22 → (if y < 10 then 1 else 2) ≤ e → e ≤ mL M w → mL M w ≤ 2400 → ∃ r, bb_J6_getChars_ba4f3_22 Z M (-nI y) (some w) (nI e) 0 = some (.inr (r, wD M w e y)) := by
    intro M y e hy hT he hL hm
    obtain ⟨a1, a2, a3, a4, -, -⟩ := ch_f y (by omega)
    obtain ⟨d1, d2⟩ := gD_f y hy
    have he0 : 0 < e := by split at he <;> omega
    unfold bb_J6_getChars_ba4f3_22 b_J6_getChars_ba4f3_104 b_J6_getChars_ba4f3_118
    have hcE : (nI (e - 1)).toNatClampNeg = e - 1 := nI_clamp (by omega)
    have hgo : gDo (nI y).toNatClampNeg = nI (48 + y % 10) := by rw [nI_clamp (by omega)]; exact d1
    have hgt : gDt (nI y).toNatClampNeg = nI (48 + y / 10) := by rw [nI_clamp (by omega)]; exact d2
    rw [if_pos (a2.mpr hy), a4, ck_t ((inbN (by omega)).mpr hy), dr_S, ck_t hT, nI_p1 he0, ck_t ((inbN (by omega)).mpr (by omega)), hcE, hgo, (nbb_f (48 + y % 10) (by omega)).1, lw_S]
    unfold wD
    by_cases c : y < 10
    · rw [if_pos (a3.mpr c), if_pos rfl, if_pos c, Nat.mod_eq_of_lt c]
      exact ⟨_, rfl⟩
    · rw [if_neg (fun z => c (a3.mp z)), ck_t ((inbN (by omega)).mpr hy)]
      rw [if_neg c] at he
      have hp1 : nI (e - 1) + (-1 : Int32) = nI (e - 1 - 1) := nI_p1 (show 0 < e - 1 by omega)
      have hcE2 : (nI (e - 1 - 1)).toNatClampNeg = e - 1 - 1 := nI_clamp (by omega)
      rw [hp1, ck_t ((inbN (by omega)).mpr (show e - 1 - 1 < mL (wI M w (e - 1) (nI (48 + y % 10))) w from by show e - 1 - 1 < mL M w; omega)), hcE2, hgt, (nbb_f (48 + y / 10) (by omega)).1, lw_S, if_pos rfl, if_neg c, if_pos hy]
      exact ⟨_, rfl⟩
  obtain ⟨a1, a2, a3, a4, a5, a6⟩ := ch_f x h
  unfold f_J6_getChars_ba4f3 b_J6_getChars_ba4f3_0 b_J6_getChars_ba4f3_12 lp_J6_getChars_ba4f3_22
  rw [if_pos a1, if_pos rfl]
  by_cases c : x < 100
  · obtain ⟨r, hr⟩ := tail M x e c hT (by rw [if_pos c] at he; exact he) hL hm
    exact ⟨r, lp_out hr⟩
  · rw [if_neg (by omega), if_neg c] at he
    obtain ⟨d1, d2⟩ := gD_f (x % 100) (by omega)
    have s1 : (fun q : gMem × Int32 × Int32 => bb_J6_getChars_ba4f3_22 Z q.1 q.2.1 (some w) q.2.2 0) (M, -nI x, nI e) = some (.inl (wI (wI M w (e - 1) (nI (48 + x % 10))) w (e - 2) (nI (48 + x / 10 % 10)), -nI (x / 100), nI (e - 2))) := by
      show bb_J6_getChars_ba4f3_22 Z M (-nI x) (some w) (nI e) 0 = _
      unfold bb_J6_getChars_ba4f3_22
      have hcE : (nI (e - 1)).toNatClampNeg = e - 1 := nI_clamp (by omega)
      have hgo : gDo (nI (x % 100)).toNatClampNeg = nI (48 + x % 10) := by rw [nI_clamp (by omega), d1, show x % 100 % 10 = x % 10 by omega]
      have hgt : gDt (nI (x % 100)).toNatClampNeg = nI (48 + x / 10 % 10) := by rw [nI_clamp (by omega), d2, show x % 100 / 10 = x / 10 % 10 by omega]
      have hp1 : nI (e - 1) + (-1 : Int32) = nI (e - 1 - 1) := nI_p1 (show 0 < e - 1 by omega)
      have hcE2 : (nI (e - 1 - 1)).toNatClampNeg = e - 1 - 1 := nI_clamp (by omega)
      rw [if_neg (fun z => c (a2.mp z)), a5, a6, ck_t ((inbN (by omega)).mpr (by omega)), dr_S, ck_t hT, nI_p1 (show 0 < e by omega), ck_t ((inbN (by omega)).mpr (by omega)), hcE, hgo, (nbb_f (48 + x % 10) (by omega)).1, lw_S, ck_t ((inbN (by omega)).mpr (by omega)), hp1, ck_t ((inbN (by omega)).mpr (show e - 1 - 1 < mL (wI M w (e - 1) (nI (48 + x % 10))) w from by show e - 1 - 1 < mL M w; omega)), hcE2, hgt, (nbb_f (48 + x / 10 % 10) (by omega)).1, lw_S]
      rfl
    rw [lp_in s1]
    obtain ⟨r, hr⟩ := tail (wI (wI M w (e - 1) (nI (48 + x % 10))) w (e - 2) (nI (48 + x / 10 % 10))) (x / 100) (e - 2) (by omega) hT (by rw [if_pos (by omega)]; omega) (by show e - 2 ≤ mL M w; omega) hm
    refine ⟨r, ?_⟩
    rw [lp_out hr]
    unfold wD
    rw [if_pos (show x / 100 < 10 by omega), if_neg (show ¬ x < 10 by omega), if_neg c, show e - 2 - 1 = e - 3 by omega]
theorem wD_f {M : gMem} {w e x : Nat} (h : x < 1000) (he : (dgL x).length ≤ e) : mT (wD M w e x) = mT M ∧ mL (wD M w e x) = mL M ∧ mR (wD M w e x) = mR M ∧ mJ (wD M w e x) = mJ M ∧ mN (wD M w e x) = mN M ∧ (∀ c, c ≠ w → mI (wD M w e x) c = mI M c) ∧ ∀ i, mI (wD M w e x) w i = if e - (dgL x).length ≤ i ∧ i < e then nI ((dgL x).getD (i - (e - (dgL x).length)) 0) else mI M w i := by
  rw [dgL_l] at he
  refine ⟨?_, ?_, ?_, ?_, ?_, fun c hc => ?_, fun i => ?_⟩
  iterate 5 (unfold wD; split; rfl; split <;> rfl)
  · unfold wD
    split
    · funext j; exact up2_ne (.inl hc)
    · split
      · funext j
        show up2 (up2 (mI M) w _ _) w _ _ c j = _
        rw [up2_ne (.inl hc), up2_ne (.inl hc)]
      · funext j
        show up2 (up2 (up2 (mI M) w _ _) w _ _) w _ _ c j = _
        rw [up2_ne (.inl hc), up2_ne (.inl hc), up2_ne (.inl hc)]
  · rw [dgL_l]
    unfold wD dgL
    by_cases c1 : x < 10
    · rw [if_pos c1] at he
      rw [if_pos c1, if_pos c1, if_pos c1]
      show up2 (mI M) w (e - 1) _ w i = _
      by_cases hi : i = e - 1
      · subst hi
        rw [up2_eq, if_pos (by omega), Nat.sub_self]; rfl
      · rw [up2_ne (.inr hi), if_neg (by omega)]
    · rw [if_neg c1] at he
      rw [if_neg c1, if_neg c1, if_neg c1]
      by_cases c2 : x < 100
      · rw [if_pos c2] at he
        rw [if_pos c2, if_pos c2, if_pos c2]
        show up2 (up2 (mI M) w (e - 1) _) w (e - 2) _ w i = _
        by_cases h2 : i = e - 2
        · subst h2
          rw [up2_eq, if_pos (by omega), Nat.sub_self]; rfl
        · rw [up2_ne (.inr h2)]
          by_cases h1 : i = e - 1
          · subst h1
            rw [up2_eq, if_pos (by omega), show e - 1 - (e - 2) = 1 by omega]; rfl
          · rw [up2_ne (.inr h1), if_neg (by omega)]
      · rw [if_neg c2] at he
        rw [if_neg c2, if_neg c2, if_neg c2]
        show up2 (up2 (up2 (mI M) w (e - 1) _) w (e - 2) _) w (e - 3) _ w i = _
        by_cases h3 : i = e - 3
        · subst h3
          rw [up2_eq, if_pos (by omega), Nat.sub_self]; rfl
        · rw [up2_ne (.inr h3)]
          by_cases h2 : i = e - 2
          · subst h2
            rw [up2_eq, if_pos (by omega), show e - 2 - (e - 3) = 1 by omega]; rfl
          · rw [up2_ne (.inr h2)]
            by_cases h1 : i = e - 1
            · subst h1
              rw [up2_eq, if_pos (by omega), show e - 1 - (e - 3) = 2 by omega]; rfl
            · rw [up2_ne (.inr h1), if_neg (by omega)]
theorem dgL_b {x : Nat} (h : x < 1000) : ∀ c ∈ dgL x, 48 ≤ c ∧ c ≤ 57 := by
  unfold dgL
  intro c hc
  split at hc
  · rcases List.mem_singleton.mp hc with rfl; omega
  · split at hc
    · simp only [List.mem_cons, List.not_mem_nil, or_false] at hc
      rcases hc with rfl | rfl <;> omega
    · simp only [List.mem_cons, List.not_mem_nil, or_false] at hc
      rcases hc with rfl | rfl | rfl <;> omega
/-- a number behind a text -/
theorem sb_int {Z : Nat → Nat} {a v x : Nat} {L : List Nat} {M : gMem} (S : SBv a v L M) (hx : x < 1000) (hl : L.length + (dgL x).length ≤ 1199) : ∃ v' M', f_J4_append_bf812 Z M a (nI x) = some (some a, M') ∧ SBv a v' (L ++ dgL x) M' ∧ FRv a v M M' ∧ (v' = v ∨ mN M ≤ v') ∧ mN M' ≤ mN M + 1 := by
  obtain ⟨v', M1, g1, S1, g3, F1, g5, g6⟩ := sb_ens (Z := Z) (x := L.length + (dgL x).length) S hl
  obtain ⟨⟨t1, r1, c1, n1⟩, -, -, -, -⟩ := S
  obtain ⟨⟨u1, u2, u3, u4⟩, ⟨u5, u6, u7⟩, ⟨u8, u9⟩, u10, u11⟩ := S1
  have hav : a ≠ v' := by omega
  obtain ⟨r, hr⟩ := c_chars (Z := Z) (e := L.length + (dgL x).length) hx u5 (by omega) g3 u7
  obtain ⟨w1, w2, w3, w4, w5, w6, w7⟩ := wD_f (M := M1) (w := v') (e := L.length + (dgL x).length) hx (by omega)
  generalize hM2 : wD M1 v' (L.length + (dgL x).length) x = M2 at *
  refine ⟨v', wI M2 a 3 (nI (L.length + (dgL x).length)), ?_, ⟨⟨?_, ?_, ?_, ?_⟩, ⟨?_, ?_, ?_⟩, ⟨u8, ?_⟩, fun i hi => ?_, fun i hi => ?_⟩, ?_, g5, ?_⟩
  · unfold f_J4_append_bf812 b_J4_append_bf812_0 f_J5_append_c97b9 b_J5_append_c97b9_0 f_J5_isLatin1_aae02 b_J5_isLatin1_aae02_0 b_J5_isLatin1_aae02_18
    rw [ck_t t1, ck_t t1, c_size hx, bd_S, ck_t t1, n1, nI_add, g1, bd_S, ck_t u1, ck_t u1, if_pos u3, ck_t (.inr rfl), bd_S, if_neg (by decide), ck_t u1, u2, hr, bd_S, ck_t (by rw [w1]; exact u1), lw_S, bd_S]
  · show mT M2 a = 13; rw [w1]; exact u1
  · show mR M2 a 0 = _; rw [w3]; exact u2
  · show up2 (mI M2) a 3 _ a 1 = 0
    rw [up2_ne (.inr (by decide)), w6 a hav]; exact u3
  · show up2 (mI M2) a 3 _ a 3 = _
    rw [up2_eq, List.length_append]
  · show mT M2 v' = 22; rw [w1]; exact u5
  · show _ ≤ mL M2 v'; rw [w2, List.length_append]; exact g3
  · show mL M2 v' ≤ 2400; rw [w2]; exact u7
  · show v' < mN M2; rw [w5]; exact u9
  · rw [List.length_append] at hi
    show up2 (mI M2) a 3 _ v' i = _
    rw [up2_ne (.inl (Ne.symm hav)), w7 i]
    by_cases c : i < L.length
    · rw [if_neg (by omega), u10 i c, List.getD_eq_getElem?_getD, List.getD_eq_getElem?_getD, List.getElem?_append_left c]
    · rw [if_pos (by omega), Nat.add_sub_cancel, List.getD_eq_getElem?_getD, List.getD_eq_getElem?_getD, List.getElem?_append_right (by omega)]
  · have hi' : i < mL M1 v' := by
      have : mL (wI M2 a 3 (nI (L.length + (dgL x).length))) v' = mL M1 v' := by show mL M2 v' = _; rw [w2]
      rw [this] at hi; exact hi
    show byt (up2 (mI M2) a 3 _ v' i)
    rw [up2_ne (.inl (Ne.symm hav)), w7 i]
    by_cases c : L.length + (dgL x).length - (dgL x).length ≤ i ∧ i < L.length + (dgL x).length
    · rw [if_pos c]
      have hm : (dgL x).getD (i - (L.length + (dgL x).length - (dgL x).length)) 0 ∈ dgL x := by
        rw [List.getD_eq_getElem?_getD, List.getElem?_eq_getElem (by omega)]; exact List.getElem_mem _
      exact (nbb_f _ (by have := dgL_b hx _ hm; omega)).2
    · rw [if_neg c]; exact u11 i hi'
  · refine FRv_tr F1 (v' := v') ⟨fun c _ => ⟨by show mT M2 c = _; rw [w1], by show mL M2 c = _; rw [w2], by show mJ M2 c = _; rw [w4]⟩, fun c _ h3 h4 => ⟨?_, by show mR M2 c = _; rw [w3]⟩, by show mN M1 ≤ mN M2; rw [w5]; exact Nat.le_refl _⟩ g5
    show up2 (mI M2) a 3 _ c = mI M1 c
    funext q
    rw [up2_ne (.inl h3), w6 c h4]
  · show mN M2 ≤ _; rw [w5]; exact g6
