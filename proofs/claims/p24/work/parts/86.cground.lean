/-! ## Pure: the class's line of a ground, of a fisher -/
theorem C_fish {Z g ps vs : Nat → Nat} {K r p o : Nat} {M0 : gMem} (W : CWd Z g ps vs K r p o M0) {k s : Nat} {M : gMem} (C : CI r o M0 M) (h6 : mI M r 6 = nI k) (hk : k ≤ K) (hs : 1 ≤ s) (hs2 : s ≤ 400) : f_X6_takeFish Z M r (nI s) (some (o + (18 + 2 * lsn M o 2))) = if g k = 41 then some ((1 : Int32), at' r (k + 1) (stp1 Z r p o (1000 + s) k M)) else some ((0 : Int32), M) := by
  have ho := (W_ho W).2
  have hi := (SF_n C.2.2.2.2).1
  have e0 : stp1 Z r p o (1000 + s) k M = if s ≤ 5 then wI (nbM r p 0 99 k M) (o + (19 + 2 * lsn M o 2)) s (mI (nbM r p 0 99 k M) r 8) else nbM r p 0 99 k (ntM r p 4 k M) := by
    unfold stp1
    rw [if_neg (by omega), if_neg (by omega), if_neg (by omega), if_neg (by omega), if_neg (by omega), if_neg (by omega), if_neg (by omega), if_neg (by omega), if_neg (by omega), if_neg (by omega), if_neg (by omega), if_neg (by omega), if_neg (by omega), if_neg (by omega), if_neg (by omega), if_neg (by omega), if_neg (by omega), if_neg (by omega), if_neg (by omega), if_pos (by omega)]
    by_cases h : s ≤ 5
    · rw [if_pos h, if_pos (by omega), Nat.add_sub_cancel_left]
    · rw [if_neg h, if_neg (by omega)]
  unfold f_X6_takeFish b_X6_takeFish_0 b_X6_takeFish_20 b_X6_takeFish_47
  rw [ck_t (C_6 W C), C_sign W C h6 hk, bd_S]
  by_cases c : g k = 41
  · rw [if_pos (show some (Z (g k)) = some (Z 41) by rw [c]), if_pos c, e0]
    by_cases d : s ≤ 5
    · have CN := CI_nb (p := p) (k := k) (lo := 0) (hi := 99) ho C
      have L := (W_o W CN).1.2.2.2.1
      have q1 : nI s ≤ (5 : Int32) := nI_le (b := 5) d (by omega)
      have q2 : ¬ (5 : Int32) < nI s := fun z => by have := (nI_ltI (a := 5) (by omega) (by omega)).mp z; omega
      have q3 : inb (nI s) 6 := (inbN (by omega)).mpr (by omega)
      rw [if_pos q1, if_pos d, ck_t (C_6 W C), C_num W C h6 hk, if_pos c, bd_S, if_neg (by decide), if_neg q2, dr_S, ck_t (show mT (at' r (k + 1) (nbM r p 0 99 k M)) _ = 3 from cTg (sg := mI (nbM r p 0 99 k M)) L hi), ck_t (C_6 W (CI_at (k := k + 1) ho CN)), show mR (at' r (k + 1) (nbM r p 0 99 k M)) (o + (18 + 2 * lsn M o 2)) 3 = some (o + (19 + 2 * lsn M o 2)) from cRg (sg := mI (nbM r p 0 99 k M)) L hi, dr_S, ck_t (show mT (at' r (k + 1) (nbM r p 0 99 k M)) _ = 20 from cTgf (sg := mI (nbM r p 0 99 k M)) L hi), show mL (at' r (k + 1) (nbM r p 0 99 k M)) (o + (19 + 2 * lsn M o 2)) = 6 from cLgf (sg := mI (nbM r p 0 99 k M)) L hi, ck_t q3, nI_clamp (by omega), lw_S, wi_at (by omega) (by omega)]
    · have q1 : ¬ nI s ≤ (5 : Int32) := fun z => by have := (nI_leI (b := 5) (by omega) (by omega)).mp z; omega
      have q2 : (5 : Int32) < nI s := nI_lt (a := 5) (by omega) (by omega)
      have CN := CI_nt (p := p) (k := k) (e := 4) ho C
      rw [if_neg q1, if_neg d, ck_t (C_6 W C), C_note W C h6 hk, bd_S, ck_t (C_6 W CN), C_num W CN (by rw [nt_6]; exact h6) hk, if_pos c, bd_S, if_neg (by decide), if_pos q2]
  · have q0 : ¬ some (Z (g k)) = some (Z 41) := fun e => c (W.2.2.2.1 _ _ (W.2.2.2.2.1 k) (by omega) (Option.some.inj e))
    rw [if_neg q0, if_neg c, ck_t (C_6 W C), C_num W C h6 hk, if_neg c, bd_S, if_pos rfl]
theorem C_szL {Z g ps vs : Nat → Nat} {K r p o : Nat} {M0 : gMem} (W : CWd Z g ps vs K r p o M0) {i : Nat} : ∀ m s k M, CI r o M0 M → mI M r 6 = nI k → k ≤ K → 2 ≤ s → s ≤ k → lsn M o 2 = i → CRl Z r p o M0 M (szL g m s k) (lp_X6_groundLine_84 Z M r (some (o + (18 + 2 * i))) (nI s))
  | 0, _, _, _, _, _, _, _, _, _ => trivial
  | m + 1, s, k, M, C, h6, hk, hs, hsk, hi => by
    have ho := (W_ho W).2
    have hK := W.2.2.2.2.2.1
    have q1 : ¬ (400 : Int32) < nI s := fun z => by have := (nI_ltI (a := 400) (by omega) (by omega)).mp z; omega
    rw [szL]
    by_cases c : g k = 30
    · rw [if_pos c]
      have hk1 := W.2.2.2.2.2.2 k hk (by omega)
      have C1 := CI_at (k := k + 1) ho C
      have e1 : bb_X6_groundLine_84 Z M r (some (o + (18 + 2 * i))) (nI s) = if g (k + 1) = 41 then some (.inl (at' r (k + 1 + 1) (stp1 Z r p o (1000 + s) (k + 1) (at' r (k + 1) M)), nI (s + 1))) else some (.inr ((0 : Int32), at' r (k + 1) M)) := by
        have ef := C_fish W C1 at_k hk1 (s := s) (by omega) (by omega)
        rw [lsn_at ho, hi] at ef
        unfold bb_X6_groundLine_84
        rw [if_neg q1, ck_t (C_6 W C), C_take W C h6 hk (by decide), if_pos c, bd_S, if_neg (by decide), ck_t (C_6 W C1), ef]
        by_cases d : g (k + 1) = 41
        · rw [if_pos d, if_pos d, bd_S, if_neg (by decide), nI_1]
        · rw [if_neg d, if_neg d, bd_S, if_pos rfl]
          rfl
      unfold nb
      by_cases d : g (k + 1) = 41
      · rw [if_pos d] at e1 ⊢
        have C2 : CI r o M0 (at' r (k + 1 + 1) (stp1 Z r p o (1000 + s) (k + 1) (at' r (k + 1) M))) := CI_at ho (CI_s1 W C1)
        have hk2 := W.2.2.2.2.2.2 (k + 1) hk1 (by omega)
        have key := C_szL W (i := i) m (s + 1) (k + 1 + 1) _ C2 at_k hk2 (by omega) (by omega) (by rw [lsn_at ho, lsn_st ho (by omega), lsn_at ho]; exact hi)
        have e2 : lp_X6_groundLine_84 Z M r (some (o + (18 + 2 * i))) (nI s) = lp_X6_groundLine_84 Z (at' r (k + 1 + 1) (stp1 Z r p o (1000 + s) (k + 1) (at' r (k + 1) M))) r (some (o + (18 + 2 * i))) (nI (s + 1)) := lp_in e1
        rw [e2]
        show CRl Z r p o M0 M (match szL g m (s + 1) (k + 1 + 1) with
          | none => none
          | some (none, k1) => some (none, k1)
          | some (some es1, k1) => some (some ([(1000 + s, k + 1)] ++ es1), k1)) _
        match szL g m (s + 1) (k + 1 + 1), key with
        | none, _ => trivial
        | some (none, e1), key => exact key
        | some (some es1, e1), ⟨M2, j1, j2, j3, j4⟩ =>
          refine ⟨M2, j1, j2, j3, sim_tr j4 ?_⟩
          rw [rnE_app]
          refine sim_rn ?_ es1
          show sim r _ (stp2 Z r p o (1000 + s, k + 1) M)
          exact sim_at
      · rw [if_neg d] at e1 ⊢
        exact ⟨_, lp_out e1, C1, at_k⟩
    · rw [if_neg c]
      refine ⟨M, lp_out ?_, C, h6, fun _ => rfl⟩
      show bb_X6_groundLine_84 Z M r (some (o + (18 + 2 * i))) (nI s) = _
      unfold bb_X6_groundLine_84 b_X6_groundLine_118
      rw [if_neg q1, ck_t (C_6 W C), C_take W C h6 hk (by decide), if_neg c, bd_S, if_pos rfl]
      rfl
theorem C_lnG {Z g ps vs : Nat → Nat} {K r p o : Nat} {M0 : gMem} (W : CWd Z g ps vs K r p o M0) {k : Nat} {M : gMem} (C : CI r o M0 M) (h6 : mI M r 6 = nI k) (hk : k ≤ K) : CRl Z r p o M0 M (lnG g k) (f_X6_groundLine Z M r) := by
  have ho := (W_ho W).2
  unfold f_X6_groundLine b_X6_groundLine_0 b_X6_groundLine_21 b_X6_groundLine_51 b_X6_groundLine_80 lnG
  rw [ck_t (C_6 W C)]
  refine CR_t2 W C h6 hk (by decide) CR_A (fun M1 C1 h1 k1 e1 => ?_)
  rw [ck_t (C_6 W C1), show mR M1 r 3 = some (r + 1) from (W_o W C1).1.1.2.2.2.1]
  refine CR_ev (c := 51) (q := 40) W (nwM r p (r + 1) (k + 1)) (ngM o) C1 h1 k1 (by decide) (C_new W C1 h1 k1 (.inl rfl)) rfl (ng_at ho).1 CR_A (CI_nw ho (.inl rfl) C1) (fun X M2 CX e2 C2 h2 k2 eX eS => ?_)
  obtain ⟨a, a1, a2⟩ := CX.2.2.2.2.2.1
  have LX := (W_o W CX).1.2.2.2.1
  have hi : lsn M2 o 2 = min a 7 := by rw [e2, (ng_l CX.2.2.2.2).1, cn_e a2 (by omega)]
  have hi7 : min a 7 < 8 := by omega
  rw [ck_t (C_6 W CX), dr_s (W_o W CX).1.1.2.2.1, ck_t (show mT X o = 7 from cT0 (sg := mI X) LX), bd_s (c_nextG LX a1 a2), ← e2, ck_t (C_6 W C2)]
  generalize min a 7 = i at hi hi7
  clear eX eS e2 a1 a2 LX CX X
  refine CR_t2 W C2 h2 k2 (by decide) CR_A (fun M3 C3 h3 k3 e3 => ?_)
  have hi3 : lsn M3 o 2 = i := by rw [e3, lsn_at ho]; exact hi
  rw [ck_t (C_6 W C3)]
  refine CR_ev (c := 55) (q := 41) W (nbM r p 1 8 (k + 1 + 1 + 1)) (fun X => wI X (o + (18 + 2 * i)) 0 (mI X r 8)) C3 h3 k3 (by decide) (C_num W C3 h3 k3) (by rw [← hi3]; rfl) (wi_at (by omega) (by omega)) CR_A (CI_nb ho C3) (fun X M4 CX e4 C4 h4 k4 eX eS => ?_)
  have LX := (W_o W CX).1.2.2.2.1
  rw [ck_t (C_6 W CX), dr_S, ck_t (show mT X _ = 3 from cTg (sg := mI X) LX hi7), lw_S, ← e4]
  have hi4 : lsn M4 o 2 = i := by rw [eS, lsn_at ho, lsn_st ho (by omega)]; exact hi3
  clear eX eS e4 LX CX X
  refine CR_t2 W C4 h4 k4 (by decide) CR_A (fun M5 C5 h5 k5 e5 => ?_)
  have hi5 : lsn M5 o 2 = i := by rw [e5, lsn_at ho]; exact hi4
  rw [ck_t (C_6 W C5), ← hi5]
  refine CR_ev (c := 1001) (q := 41) W (stp1 Z r p o 1001 (k + 1 + 1 + 1 + 1 + 1)) (fun X => X) C5 h5 k5 (by decide) (C_fish W C5 h5 k5 (s := 1) (by omega) (by omega)) rfl rfl CR_A (CI_s1 W C5) (fun X M6 CX e6 C6 h6 k6 eX eS => ?_)
  have hi6 : lsn M6 o 2 = i := by rw [eS, lsn_at ho, lsn_st ho (by omega)]; exact hi5
  rw [← e6, hi5]
  exact C_szL W 401 2 _ M6 C6 h6 k6 (by omega) (by omega) hi6

