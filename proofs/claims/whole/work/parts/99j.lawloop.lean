/-! ### the law's loop -/
theorem law_len {L j : Nat} (hL : L ≤ 3072) (hj : j ≤ 3078) (h : ¬ (Int32.ofNat L - 6 < nI j)) : j + 6 ≤ L := by
  have hn : ¬ (nI L - 6 < nI j) := h
  by_cases q : 6 ≤ L
  · have e : nI L - 6 = nI (L - 6) := by
      have z := nI_add (L - 6) 6
      rw [show L - 6 + 6 = L by omega] at z
      rw [← z]
      show nI (L - 6) + 6 - 6 = nI (L - 6)
      exact Int32.add_sub_cancel _ _
    rw [e] at hn
    have : ¬ (L - 6 < j) := fun hh => hn ((nI_ltI (by omega) (by omega)).mpr hh)
    omega
  · exfalso
    have h0 : (0 : Int32) ≤ nI j := (nI_leI (a := 0) (b := j) (by omega) (by omega)).mpr (Nat.zero_le _)
    have h1 : nI L - 6 < 0 := by
      obtain rfl | rfl | rfl | rfl | rfl | rfl : L = 0 ∨ L = 1 ∨ L = 2 ∨ L = 3 ∨ L = 4 ∨ L = 5 := by omega
      all_goals decide
    exact hn (Int32.lt_of_lt_of_le h1 h0)
theorem law_op (v : Int32) : (v.toInt < 0 ∨ 20 < v.toInt) ∨ ∃ w, w < 21 ∧ v = nI w := by
  by_cases h : v.toInt < 0 ∨ 20 < v.toInt
  · exact .inl h
  · refine .inr ⟨v.toInt.toNat, by omega, ?_⟩
    apply Int32.toInt_inj.mp
    have e : (nI v.toInt.toNat).toInt = (v.toInt.toNat : Int) := by
      show (Int32.ofNat v.toInt.toNat).toInt = _
      exact Int32.toInt_ofNat_of_lt (by omega)
    rw [e]
    omega
theorem LIv_up {Z : Nat → Nat} {x mm i : Nat} {M : gMem} (S : LIv Z x mm i M) : LIv Z x mm (i + 1) M := by
  obtain ⟨o, o', t, n, kb, T, S, hk⟩ := S
  exact ⟨o, o', t, n, kb, T, S, by omega⟩
section GLAW7
variable {p : Program} {l : Launch} {e : Env} {s : State} {m : MethodId} {below : List Frame} {meth : Method} {c : Code} {D : va_G} {cy : Nat → ClassId} {B : Nat} {H0 : Heap} {Z : Nat → Nat} {Q : State → Prop} {b x mm L : Nat} {xs : Nat → Int32}
set_option maxRecDepth 20000 in
set_option maxHeartbeats 2000000 in
theorem law_loop (hlx : l.stackTraces = false) (hH : H0.size = B) (hZ : ∀ a b : Nat, a < 45 → b < 45 → Z a = Z b → a = b) (X0 : gXL p s m b meth c D cy B Z H0) (hX : va_X b L xs s H0) (hb : b < B) (hL : L ≤ 3072)
    (hend : ∀ d0 k n j M, s.drawn.sameBut d0 lw_cs → k ≤ 601024 → n ≤ 7293034 → gGL p l e (s.setDrawn d0) m b below meth c D cy B H0 k n Q 1296 (lLv b x mm j) [] M) :
    ∀ r i d0 M, i + r = 513 → s.drawn.sameBut d0 lw_cs → LIv Z x mm i M → gGL p l e (s.setDrawn d0) m b below meth c D cy B H0 (300 + 160 * i) (90000 + 1600 * i) Q 23 (lLv b x mm (6 * i)) [] M := by
  intro r
  induction r with
  | zero =>
    intro i d0 M hi hd0 S
    have X := gX_dr X0 d0
    refine g_iload (x := nI (6 * i)) X dL_law_23 rfl ?_
    refine g_aload_n (x := some b) X dL_law_25 rfl rfl ?_
    refine g_scl (L := L) (xs := xs) X hX hb dL_law_26 ?_
    refine g_bipush (v := (6 : Int32)) X dL_law_27 (by decide) ?_
    refine g_isub X dL_law_29 ?_
    exact g_icmp_gt (tgt := 1296) X dL_law_30 (by decide) (fun _ => hend d0 _ _ _ _ hd0 (by omega) (by omega)) (fun h => by
      have := law_len hL (by omega) h
      omega)
  | succ r ih =>
    intro i d0 M hi hd0 S
    have X := gX_dr X0 d0
    refine g_iload (x := nI (6 * i)) X dL_law_23 rfl ?_
    refine g_aload_n (x := some b) X dL_law_25 rfl rfl ?_
    refine g_scl (L := L) (xs := xs) X hX hb dL_law_26 ?_
    refine g_bipush (v := (6 : Int32)) X dL_law_27 (by decide) ?_
    refine g_isub X dL_law_29 ?_
    refine g_icmp_gt (tgt := 1296) X dL_law_30 (by decide) (fun _ => hend d0 _ _ _ _ hd0 (by omega) (by omega)) (fun h => ?_)
    have hj := law_len hL (by omega) h
    have hj5 : 6 * i + 5 < L := by omega
    have hi6 : i ≤ 600 := by omega
    have hf : 300 + 160 * i + 160 ≤ 601024 ∧ 90000 + 1600 * i + 1600 ≤ 7293034 := ⟨by omega, by omega⟩
    have next : ∀ d1, s.drawn.sameBut d1 lw_cs → ∀ M', LIv Z x mm (i + 1) M' → gGL p l e (s.setDrawn d1) m b below meth c D cy B H0 (300 + 160 * i + 160) (90000 + 1600 * i + 1600) Q 1290 (lLv b x mm (6 * i)) [] M' := by
      intro d1 hd1 M' S'
      have X := gX_dr X0 d1
      have e6 : nI (6 * i) + 6 = nI (6 * (i + 1)) := nI_add (6 * i) 6
      refine g_iinc (x := nI (6 * i)) (v := (6 : Int32)) (lv' := [(4, vI (nI (6 * (i + 1)))), (0, vR (some b)), (1, vR (some x)), (2, vR (some mm)), (3, vR (some (mm + 59)))]) X dL_law_1290 rfl (by decide) (by decide) (by rw [e6]; rfl) ?_
      refine g_goto (tgt := 23) X dL_law_1293 (by decide) ?_
      refine g_sub (lvsub_of _ (lLv b x mm (6 * (i + 1))) [1, 2, 3, 4, 0] rfl) ?_
      exact g_wide (by omega) (by omega) (ih (i + 1) d1 M' (by omega) hd1 S')
    refine g_aload_n (x := some b) X dL_law_33 rfl rfl ?_
    refine g_iload (x := nI (6 * i)) X dL_law_34 rfl ?_
    refine g_scr (L := L) (xs := xs) X hX hb dL_law_36 ((inbN (by omega)).mpr (by omega)) ?_
    refine g_bipush (v := (31 : Int32)) X dL_law_37 (by decide) ?_
    refine g_iand X dL_law_39 ?_
    rcases law_op (xs (nI (6 * i)).toNatClampNeg &&& 31) with hv | ⟨w, hw, hv⟩
    · exact g_tabout (tgt := 1290) X dL_law_40 hv (by decide) (g_wide (by omega) (by omega) (next d0 hd0 M (LIv_up S)))
    · obtain rfl | rfl | rfl | rfl | rfl | rfl | rfl | rfl | rfl | rfl | rfl | rfl | rfl | rfl | rfl | rfl | rfl | rfl | rfl | rfl | rfl : w = 0 ∨ w = 1 ∨ w = 2 ∨ w = 3 ∨ w = 4 ∨ w = 5 ∨ w = 6 ∨ w = 7 ∨ w = 8 ∨ w = 9 ∨ w = 10 ∨ w = 11 ∨ w = 12 ∨ w = 13 ∨ w = 14 ∨ w = 15 ∨ w = 16 ∨ w = 17 ∨ w = 18 ∨ w = 19 ∨ w = 20 := by omega
      · exact g_tabin (tgt := 140) X dL_law_40 hv (by decide) (by decide) (by decide +kernel : _ = some (100 : Int)) (by decide) (law_c_feed hlx hH X hX hb hL hj5 S hi6 hf (next d0 hd0))
      · exact g_tabin (tgt := 244) X dL_law_40 hv (by decide) (by decide) (by decide +kernel : _ = some (204 : Int)) (by decide) (law_c_trim hlx hH X hX hb hL hj5 S hi6 hf (next d0 hd0))
      · exact g_tabin (tgt := 300) X dL_law_40 hv (by decide) (by decide) (by decide +kernel : _ = some (260 : Int)) (by decide) (law_c_teach hZ X S hf (next d0 hd0))
      · exact g_tabin (tgt := 313) X dL_law_40 hv (by decide) (by decide) (by decide +kernel : _ = some (273 : Int)) (by decide) (law_c_errorAt X S hf (next d0 hd0))
      · exact g_tabin (tgt := 326) X dL_law_40 hv (by decide) (by decide) (by decide +kernel : _ = some (286 : Int)) (by decide) (law_c_count hlx hH X hX hb hL hj5 S hi6 hf (next d0 hd0))
      · exact g_tabin (tgt := 382) X dL_law_40 hv (by decide) (by decide) (by decide +kernel : _ = some (342 : Int)) (by decide) (law_c_ground hlx hH X hX hb hL hj5 S hi6 hf (next d0 hd0))
      · exact g_tabin (tgt := 450) X dL_law_40 hv (by decide) (by decide) (by decide +kernel : _ = some (410 : Int)) (by decide) (law_c_fisher hlx hH X hX hb hL hj5 S hi6 hf (next d0 hd0))
      · exact g_tabin (tgt := 518) X dL_law_40 hv (by decide) (by decide) (by decide +kernel : _ = some (478 : Int)) (by decide) (law_c_pact hlx hH X hX hb hL hj5 S hi6 hf (next d0 hd0))
      · exact g_tabin (tgt := 586) X dL_law_40 hv (by decide) (by decide) (by decide +kernel : _ = some (546 : Int)) (by decide) (law_c_cheat hlx hH X hX hb hL hj5 S hi6 hf (next d0 hd0))
      · exact g_tabin (tgt := 670) X dL_law_40 hv (by decide) (by decide) (by decide +kernel : _ = some (630 : Int)) (by decide) (law_c_mend hlx hH X hX hb hL hj5 S hi6 hf (next d0 hd0))
      · exact g_tabin (tgt := 726) X dL_law_40 hv (by decide) (by decide) (by decide +kernel : _ = some (686 : Int)) (by decide) (law_c_lot hlx hH X hX hb hL hj5 S hi6 hf (next d0 hd0))
      · exact g_tabin (tgt := 782) X dL_law_40 hv (by decide) (by decide) (by decide +kernel : _ = some (742 : Int)) (by decide) (law_c_took hlx hH X hX hb hL hj5 S hi6 hf (next d0 hd0))
      · exact g_tabin (tgt := 850) X dL_law_40 hv (by decide) (by decide) (by decide +kernel : _ = some (810 : Int)) (by decide) (law_c_blame hlx hH X hX hb hL hj5 S hi6 hf (next d0 hd0))
      · exact g_tabin (tgt := 906) X dL_law_40 hv (by decide) (by decide) (by decide +kernel : _ = some (866 : Int)) (by decide) (law_c_gap X S hi6 hf (next d0 hd0))
      · exact g_tabin (tgt := 919) X dL_law_40 hv (by decide) (by decide) (by decide +kernel : _ = some (879 : Int)) (by decide) (law_c_pass hlx hH X hX hb hL hj5 S hi6 hf (next d0 hd0))
      · exact g_tabin (tgt := 975) X dL_law_40 hv (by decide) (by decide) (by decide +kernel : _ = some (935 : Int)) (by decide) (law_c_foresee hlx hH X hX hb hL hj5 S hi6 hf (next d0 hd0))
      · exact g_tabin (tgt := 1043) X dL_law_40 hv (by decide) (by decide) (by decide +kernel : _ = some (1003 : Int)) (by decide) (law_c_pays hlx hH X hX hb hL hj5 S hi6 hf (next d0 hd0))
      · exact g_tabin (tgt := 1111) X dL_law_40 hv (by decide) (by decide) (by decide +kernel : _ = some (1071 : Int)) (by decide) (law_c_empty hlx hH X hX hb hL hj5 S hi6 hf (next d0 hd0))
      · exact g_tabin (tgt := 1167) X dL_law_40 hv (by decide) (by decide) (by decide +kernel : _ = some (1127 : Int)) (by decide) (law_c_advise hlx hH X hX hb hL hj5 S hi6 hf (next d0 hd0))
      · exact g_tabin (tgt := 1235) X dL_law_40 hv (by decide) (by decide) (by decide +kernel : _ = some (1195 : Int)) (by decide) (law_c_mean hd0 X0 S hf (fun M1 d1 h1 h2 => next d1 h1 M1 h2))
      · exact g_tabin (tgt := 1276) X dL_law_40 hv (by decide) (by decide) (by decide +kernel : _ = some (1236 : Int)) (by decide) (law_c_digest X S hf (next d0 hd0))
end GLAW7
