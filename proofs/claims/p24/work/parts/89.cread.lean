/-! ## Pure: the class reads a text -/
theorem gSw_2 : ∀ c, c < 45 → (gSw c = 1 ↔ c = 0) ∧ (gSw c = 2 ↔ c = 3) ∧ (gSw c = 3 ↔ c = 7) ∧ (gSw c = 4 ↔ c = 10) := by decide +kernel
def CTx (Z : Nat → Nat) (r p o : Nat) (M0 M : gMem) (x : Option (Option (List (Nat × Nat)) × Nat)) (y : Option (Int32 × gMem)) : Prop :=
  match x with
  | none => True
  | some (none, e) => ∃ M1, y = b_X6_read_132 Z M1 r 0 ∧ CI r o M0 M1 ∧ mI M1 r 6 = nI e
  | some (some es, e) => ∃ M1, y = b_X6_read_132 Z M1 r 1 ∧ CI r o M0 M1 ∧ mI M1 r 6 = nI e ∧ sim r M1 (rnE Z r p o es M)
theorem C_out {Z : Nat → Nat} {r c : Nat} {M : gMem} (hc : c < 400) : lp_X6_read_11 Z M r 0 (nI c) = b_X6_read_132 Z M r 0 := by
  refine lp_oI1 ?_
  show bb_X6_read_11 Z M r 0 (nI c) = _
  have q1 : ¬ (400 : Int32) ≤ nI c := fun z => by have := (nI_leI (a := 400) (by omega) (by omega)).mp z; omega
  unfold bb_X6_read_11
  rw [if_neg q1, if_pos rfl]
theorem C_txL {Z g ps vs : Nat → Nat} {K r p o : Nat} {M0 : gMem} (W : CWd Z g ps vs K r p o M0) : ∀ m c k M, CI r o M0 M → mI M r 6 = nI k → k ≤ K → 2 * c ≤ k → CTx Z r p o M0 M (txL g m k) (lp_X6_read_11 Z M r 1 (nI c))
  | 0, _, _, _, _, _, _, _ => trivial
  | m + 1, c, k, M, C, h6, hk, hck => by
    have ho := (W_ho W).2
    have hK := W.2.2.2.2.2.1
    have H := W.2.2.2.2.2.2
    have hg := W.2.2.2.2.1 k
    have q1 : ¬ (400 : Int32) ≤ nI c := fun z => by have := (nI_leI (a := 400) (by omega) (by omega)).mp z; omega
    rw [txL]
    by_cases c42 : g k = 42
    · rw [if_pos c42]
      refine ⟨M, lp_oI1 ?_, C, h6, fun _ => rfl⟩
      show bb_X6_read_11 Z M r 1 (nI c) = _
      unfold bb_X6_read_11
      rw [if_neg q1, if_neg (show ¬ (1 : Int32) = 0 by decide), ck_t (C_6 W C), C_sign W C h6 hk, bd_S, if_pos (show some (Z (g k)) = some (Z 42) by rw [c42])]
    rw [if_neg c42]
    have q42 : ¬ some (Z (g k)) = some (Z 42) := fun e => c42 (W.2.2.2.1 _ _ hg (by omega) (Option.some.inj e))
    have line : ∀ y : Option (Int32 × gMem), CRl Z r p o M0 M (ln1 g k) y → bb_X6_read_11 Z M r 1 (nI c) = (bd y fun r25 M25 => b_X6_read_106 Z M25 r r25 (nI c)) → CTx Z r p o M0 M (sq (ln1 g k) fun k => sq (tk1 g 29 k) (txL g m)) (lp_X6_read_11 Z M r 1 (nI c)) := fun y hy hb => by
      have fe := (NN_ln1 H hK hk).1
      match ln1 g k, hy, fe with
      | none, _, _ => trivial
      | some (none, e), ⟨M1, k1, k2, k3⟩, _ =>
        rw [k1, bd_S] at hb
        unfold b_X6_read_106 b_X6_read_124 b_X6_read_125 at hb
        rw [if_pos rfl, nI_1] at hb
        refine ⟨M1, ?_, k2, k3⟩
        have e1 : lp_X6_read_11 Z M r 1 (nI c) = lp_X6_read_11 Z M1 r 0 (nI (c + 1)) := lp_in hb
        rw [e1, C_out (by omega)]
      | some (some es, e), ⟨M1, k1, k2, k3, k4⟩, fe =>
        have he := fe.1
        have he2 := fe.2.1
        rw [k1, bd_S] at hb
        unfold b_X6_read_106 b_X6_read_124 b_X6_read_125 at hb
        rw [if_neg (by decide), ck_t (C_6 W k2), C_take W k2 k3 he (by decide), nI_1] at hb
        show CTx Z r p o M0 M (match sq (tk1 g 29 e) (txL g m) with
          | none => none
          | some (none, k1) => some (none, k1)
          | some (some es1, k1) => some (some (es ++ es1), k1)) _
        unfold tk1
        by_cases d : g e = 29
        · rw [if_pos d, bd_S, if_neg (by decide)] at hb
          rw [if_pos d]
          have hk1 := H e he (by omega)
          have key := C_txL W m (c + 1) (e + 1) (at' r (e + 1) M1) (CI_at ho k2) at_k hk1 (by omega)
          have e1 : lp_X6_read_11 Z M r 1 (nI c) = lp_X6_read_11 Z (at' r (e + 1) M1) r 1 (nI (c + 1)) := lp_in hb
          rw [e1]
          show CTx Z r p o M0 M (match (match txL g m (e + 1) with
            | none => none
            | some (none, k1) => some (none, k1)
            | some (some es1, k1) => some (some ([] ++ es1), k1)) with
            | none => none
            | some (none, k1) => some (none, k1)
            | some (some es1, k1) => some (some (es ++ es1), k1)) _
          match txL g m (e + 1), key with
          | none, _ => trivial
          | some (none, e2), key => exact key
          | some (some es2, e2), ⟨M2, j1, j2, j3, j4⟩ =>
            refine ⟨M2, j1, j2, j3, ?_⟩
            show sim r M2 (rnE Z r p o (es ++ es2) M)
            rw [rnE_app]
            exact sim_tr j4 (sim_rn (sim_tr sim_at k4) es2)
        · rw [if_neg d, bd_S, if_pos rfl] at hb
          rw [if_neg d]
          refine ⟨M1, ?_, k2, k3⟩
          have e1 : lp_X6_read_11 Z M r 1 (nI c) = lp_X6_read_11 Z M1 r 0 (nI (c + 1)) := lp_in hb
          rw [e1, C_out (by omega)]
    obtain ⟨s1, s2, s3, s4⟩ := gSw_2 (g k) hg
    have hd : bb_X6_read_11 Z M r 1 (nI c) = (if gSw (g k) = (1 : Int32) then ck (mT M r = 6) <| bd (f_X6_groundLine Z M r) fun r25 M25 => b_X6_read_106 Z M25 r r25 (nI c) else if gSw (g k) = (2 : Int32) then ck (mT M r = 6) <| bd (f_X6_fisherLine Z M r) fun r28 M28 => b_X6_read_106 Z M28 r r28 (nI c) else if gSw (g k) = (3 : Int32) then ck (mT M r = 6) <| bd (f_X6_goLine Z M r) fun r31 M31 => b_X6_read_106 Z M31 r r31 (nI c) else if gSw (g k) = (4 : Int32) then ck (mT M r = 6) <| bd (f_X6_pactLine Z M r) fun r34 M34 => b_X6_read_106 Z M34 r r34 (nI c) else b_X6_read_106 Z M r 0 (nI c)) := by
      unfold bb_X6_read_11
      rw [if_neg q1, if_neg (show ¬ (1 : Int32) = 0 by decide), ck_t (C_6 W C), C_sign W C h6 hk, bd_S, if_neg q42, ck_t (C_6 W C), C_sign W C h6 hk, bd_S, ordZ_e W.2.2.2.1 hg, dr_S]
    by_cases d0 : g k = 0
    · refine line (f_X6_groundLine Z M r) (by unfold ln1; rw [if_pos d0]; exact C_lnG W C h6 hk) ?_
      rw [hd, if_pos (s1.mpr d0), ck_t (C_6 W C)]
    by_cases d1 : g k = 3
    · refine line (f_X6_fisherLine Z M r) (by unfold ln1; rw [if_neg d0, if_pos d1]; exact C_lnF W C h6 hk) ?_
      rw [hd, if_neg (fun z => d0 (s1.mp z)), if_pos (s2.mpr d1), ck_t (C_6 W C)]
    by_cases d2 : g k = 7
    · refine line (f_X6_goLine Z M r) (by unfold ln1; rw [if_neg d0, if_neg d1, if_pos d2]; exact C_lnO W C h6 hk d2) ?_
      rw [hd, if_neg (fun z => d0 (s1.mp z)), if_neg (fun z => d1 (s2.mp z)), if_pos (s3.mpr d2), ck_t (C_6 W C)]
    by_cases d3 : g k = 10
    · refine line (f_X6_pactLine Z M r) (by unfold ln1; rw [if_neg d0, if_neg d1, if_neg d2, if_pos d3]; exact C_lnP W C h6 hk) ?_
      rw [hd, if_neg (fun z => d0 (s1.mp z)), if_neg (fun z => d1 (s2.mp z)), if_neg (fun z => d2 (s3.mp z)), if_pos (s4.mpr d3), ck_t (C_6 W C)]
    · refine line (some ((0 : Int32), M)) (by unfold ln1; rw [if_neg d0, if_neg d1, if_neg d2, if_neg d3]; exact ⟨M, rfl, C, h6⟩) ?_
      rw [hd, if_neg (fun z => d0 (s1.mp z)), if_neg (fun z => d1 (s2.mp z)), if_neg (fun z => d2 (s3.mp z)), if_neg (fun z => d3 (s4.mp z)), bd_S]
/-- the built shore is forgotten -/
def fgM (o : Nat) (M : gMem) : gMem := wI (wI (wI (wI (wI M o 2 0) o 3 0) o 4 0) o 5 0) (o + 5) 0 0
theorem c_forget {o : Nat} {M : gMem} (L : LC o M) : f_X7_forget M o = some ((), fgM o M) := by
  unfold f_X7_forget b_X7_forget_0 fgM
  rw [ck_t (show mT M o = 7 from cT0 (sg := mI M) L), lw_S, lw_S, lw_S, lw_S, show mR (wI (wI (wI (wI M o 2 0) o 3 0) o 4 0) o 5 0) o 10 = some (o + 5) from cR0_10 (sg := mI M) L, dr_S, ck_t (show mT (wI (wI (wI (wI M o 2 0) o 3 0) o 4 0) o 5 0) (o + 5) = 8 from cT5 (sg := mI M) L), lw_S]
/-- the whole reading: a text that is none; a text, with what its events left -/
theorem C_read {Z g ps vs : Nat → Nat} {K r p o : Nat} {M0 : gMem} (W : CWd Z g ps vs K r p o M0) {M : gMem} (B : CB r p o M) (CF : CI r o M0 (fgM o M)) (h6 : mI M r 6 = nI 0) : match txL g 401 0 with
    | none => True
    | some (none, e) => ∃ M1, f_X6_read Z M r = some ((1 : Int32), wI (wI M1 r 7 1) r 0 (nI (ps e))) ∧ CI r o M0 M1 ∧ e ≤ K
    | some (some es, e) => ∃ M1, f_X6_read Z M r = some (mI M1 r 7, M1) ∧ CI r o M0 M1 ∧ sim r M1 (rnE Z r p o es (fgM o M)) := by
  have ho := (W_ho W).2
  have hK := W.2.2.2.2.2.1
  have hF6 : mI (fgM o M) r 6 = nI 0 := by
    unfold fgM
    rw [wI_o (.inl (by omega)), wI_o (.inl (by omega)), wI_o (.inl (by omega)), wI_o (.inl (by omega)), wI_o (.inl (by omega))]
    exact h6
  have key := C_txL W 401 0 0 (fgM o M) CF hF6 (Nat.zero_le _) (by omega)
  have fe := (NN_txL W.2.2.2.2.2.2 hK 401 0 (Nat.zero_le _) (by omega)).1
  have e1 : f_X6_read Z M r = lp_X6_read_11 Z (fgM o M) r 1 (nI 0) := by
    unfold f_X6_read b_X6_read_0
    rw [ck_t B.1.1, dr_s B.1.2.2.1, ck_t (show mT M o = 7 from cT0 (sg := mI M) B.2.2.2.1), c_forget B.2.2.2.1, bd_S]
    rfl
  rw [e1]
  match txL g 401 0, key, fe with
  | none, _, _ => trivial
  | some (none, e), ⟨M1, k1, k2, k3⟩, fe =>
    have he : e ≤ K := fe
    obtain ⟨⟨⟨t1, r1, -⟩, ⟨t2, -, r3, -, -, -, t3, l3, -⟩, -⟩, T⟩ := W_o W k2
    have q : inb (nI e) 401 := (inbN (by omega)).mpr (by omega)
    have h66 : mI (wI M1 r 7 1) r 6 = nI e := by rw [wI_o (.inr (by omega))]; exact k3
    have hps : mI (wI M1 r 7 1) (p + 3) e = nI (ps e) := by rw [wI_o (.inl (by have := W_ho W; omega))]; exact (T e he).2.1
    refine ⟨M1, ?_, k2, he⟩
    rw [k1]
    unfold b_X6_read_132 b_X6_read_157
    rw [if_pos rfl, ck_t t1, lw_S, show mR (wI M1 r 7 1) r 1 = some p from r1, dr_S, ck_t (show mT (wI M1 r 7 1) p = 9 from t2), show mR (wI M1 r 7 1) p 3 = some (p + 3) from r3, dr_S, ck_t (show mT (wI M1 r 7 1) (p + 3) = 20 from t3), h66, show mL (wI M1 r 7 1) (p + 3) = 401 from l3, ck_t q, nI_clamp (by omega), hps, lw_S, ck_t (show mT (wI (wI M1 r 7 1) r 0 (nI (ps e))) r = 6 from t1), wI_o (.inr (by omega)), wI_e]
  | some (some es, e), ⟨M1, k1, k2, k3, k4⟩, fe =>
    refine ⟨M1, ?_, k2, k4⟩
    rw [k1]
    unfold b_X6_read_132 b_X6_read_157
    rw [if_neg (by decide), ck_t (C_6 W k2)]

