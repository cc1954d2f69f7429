/-! ## Pure: the class's lines of a fisher and of a go -/
theorem sq_nil {x : Option (Option (List (Nat × Nat)) × Nat)} : sq x (fun k => some (some [], k)) = x := by
  match x with
  | none => rfl
  | some (none, k1) => rfl
  | some (some es, k1) =>
    show some (some (es ++ []), k1) = _
    rw [List.append_nil]
/-- an event ahead -/
theorem CR_pre {Z : Nat → Nat} {r p o k : Nat} {e : Nat × Nat} {M0 M M1 : gMem} {f : Nat → Option (Option (List (Nat × Nat)) × Nat)} {y : Option (Int32 × gMem)} (sm : sim r M1 (rnE Z r p o [e] M)) (h : CRl Z r p o M0 M1 (f k) y) : CRl Z r p o M0 M (sq (em e k) f) y := by
  show CRl Z r p o M0 M (match f k with
    | none => none
    | some (none, k1) => some (none, k1)
    | some (some es1, k1) => some (some ([e] ++ es1), k1)) _
  match f k, h with
  | none, _ => trivial
  | some (none, e1), key => exact key
  | some (some es1, e1), ⟨M2, k1, k2, k3, k4⟩ => exact ⟨M2, k1, k2, k3, sim_tr k4 (by rw [rnE_app]; exact sim_rn sm es1)⟩
theorem C_lnF {Z g ps vs : Nat → Nat} {K r p o : Nat} {M0 : gMem} (W : CWd Z g ps vs K r p o M0) {k : Nat} {M : gMem} (C : CI r o M0 M) (h6 : mI M r 6 = nI k) (hk : k ≤ K) : CRl Z r p o M0 M (lnF g k) (f_X6_fisherLine Z M r) := by
  have ho := (W_ho W).2
  unfold f_X6_fisherLine b_X6_fisherLine_0 b_X6_fisherLine_21 b_X6_fisherLine_50 b_X6_fisherLine_88 b_X6_fisherLine_118 lnF
  rw [ck_t (C_6 W C)]
  refine CR_t2 W C h6 hk (by decide) CR_A (fun M1 C1 h1 k1 e1 => ?_)
  rw [ck_t (C_6 W C1), show mR M1 r 4 = some (r + 3) from (W_o W C1).1.1.2.2.2.2.1]
  refine CR_ev (c := 52) (q := 40) W (nwM r p (r + 3) (k + 1)) (nfM o) C1 h1 k1 (by decide) (C_new W C1 h1 k1 (.inr (.inl rfl))) rfl (ng_at ho).2.1 CR_A (CI_nw ho (.inr (.inl rfl)) C1) (fun X M2 CX e2 C2 h2 k2 eX eS => ?_)
  obtain ⟨a, a1, a2⟩ := CX.2.2.2.2.2.2.1
  have LX := (W_o W CX).1.2.2.2.1
  have hi : lsn M2 o 3 = min a 7 := by rw [e2, (ng_l CX.2.2.2.2).2.1, cn_e a2 (by omega)]
  have hi7 : min a 7 < 8 := by omega
  have hf9 : mI X (o + 14) 9 = 0 := (W_fr W CX).2.2.1 9 (by omega)
  rw [ck_t (C_6 W CX), dr_s (W_o W CX).1.1.2.2.1, ck_t (show mT X o = 7 from cT0 (sg := mI X) LX), bd_s (c_nextF LX a1 a2 hf9), ← e2, ck_t (C_6 W C2)]
  generalize min a 7 = i at hi hi7
  clear eX eS e2 a1 a2 LX CX X hf9
  refine CR_t2 W C2 h2 k2 (by decide) CR_A (fun M3 C3 h3 k3 e3 => ?_)
  have hi3 : lsn M3 o 3 = i := by rw [e3, lsn_at ho]; exact hi
  rw [ck_t (C_6 W C3)]
  refine CR_ev (c := 57) (q := 41) W (nbM r p 1 5 (k + 1 + 1 + 1)) (fun X => wI (wI X (o + (34 + 2 * i)) 0 (mI X r 8)) (o + (34 + 2 * i)) 1 (mI X r 8)) C3 h3 k3 (by decide) (C_num W C3 h3 k3) (by rw [← hi3]; rfl) (by unfold at'; rw [wI_o (.inr (by omega)), wI_cm (a := r) (b := o + (34 + 2 * i)) (.inl (by omega)), wI_cm (a := r) (b := o + (34 + 2 * i)) (.inl (by omega))]) CR_A (CI_nb ho C3) (fun X M4 CX e4 C4 h4 k4 eX eS => ?_)
  have LX := (W_o W CX).1.2.2.2.1
  rw [ck_t (C_6 W CX), dr_S, ck_t (show mT X _ = 1 from cTf (sg := mI X) LX hi7), lw_S, lw_S, show mI (wI X (o + (34 + 2 * i)) 0 (mI X r 8)) r 8 = mI X r 8 from wI_o (.inl (by omega)), ← e4]
  have hi4 : lsn M4 o 3 = i := by rw [eS, lsn_at ho, lsn_st ho (by omega)]; exact hi3
  clear eX eS e4 LX CX X
  refine CR_t2 W C4 h4 k4 (by decide) CR_A (fun M5 C5 h5 k5 e5 => ?_)
  have hi5 : lsn M5 o 3 = i := by rw [e5, lsn_at ho]; exact hi4
  rw [ck_t (C_6 W C5)]
  refine CR_ev (c := 58) (q := 41) W (nbM r p 1 99 (k + 1 + 1 + 1 + 1 + 1)) (fun X => wI X (o + (34 + 2 * i)) 2 (mI X r 8)) C5 h5 k5 (by decide) (C_num W C5 h5 k5) (by rw [← hi5]; rfl) (wi_at (by omega) (by omega)) CR_A (CI_nb ho C5) (fun X M6 CX e6 C6 h6 k6 eX eS => ?_)
  have LX := (W_o W CX).1.2.2.2.1
  rw [ck_t (C_6 W CX), ck_t (show mT X _ = 1 from cTf (sg := mI X) LX hi7), lw_S, ← e6]
  have hi6 : lsn M6 o 3 = i := by rw [eS, lsn_at ho, lsn_st ho (by omega)]; exact hi5
  clear eX eS e6 LX CX X
  refine CR_t2 W C6 h6 k6 (by decide) CR_A (fun M7 C7 h7 k7 e7 => ?_)
  have hi7' : lsn M7 o 3 = i := by rw [e7, lsn_at ho]; exact hi6
  rw [ck_t (C_6 W C7), ← sq_nil (x := nb g 59 (k + 1 + 1 + 1 + 1 + 1 + 1 + 1))]
  refine CR_ev (c := 59) (q := 41) W (nbM r p 1 40 (k + 1 + 1 + 1 + 1 + 1 + 1 + 1)) (fun X => wI X (o + (34 + 2 * i)) 3 (mI X r 8)) C7 h7 k7 (by decide) (C_num W C7 h7 k7) (by rw [← hi7']; rfl) (wi_at (by omega) (by omega)) CR_A (CI_nb ho C7) (fun X M8 CX e8 C8 h8 k8 eX eS => ?_)
  have LX := (W_o W CX).1.2.2.2.1
  rw [ck_t (C_6 W CX), ck_t (show mT X _ = 1 from cTf (sg := mI X) LX hi7), lw_S, ← e8]
  exact ⟨M8, rfl, C8, h8, fun _ => rfl⟩
theorem C_121 {Z g ps vs : Nat → Nat} {K r p o : Nat} {M0 : gMem} (W : CWd Z g ps vs K r p o M0) {k i c : Nat} {M : gMem} (C : CI r o M0 M) (h6 : mI M r 6 = nI k) (hk : k ≤ K) (hc : c = 64 ∨ c = 66) (hi : lsn M o 4 = i) (hi2 : i < 24) {j : Nat} : CRl Z r p o M0 M (em (c, j) k) (b_X6_goLine_121 Z M r (some (o + (50 + i)))) := by
  have ho := (W_ho W).2
  have L := (W_o W C).1.2.2.2.1
  unfold b_X6_goLine_121
  rw [ck_t (C_6 W C), dr_s (W_o W C).1.1.2.2.1, ck_t (show mT M o = 7 from cT0 (sg := mI M) L), show mR M o 10 = some (o + 5) from cR0_10 (sg := mI M) L, dr_S, ck_t (show mT M (o + 5) = 8 from cT5 (sg := mI M) L), dr_S, ck_t (show mT M _ = 2 from cTgo (sg := mI M) L hi2), lw_S]
  have e0 : ∀ M1, lsn M1 o 4 = i → stp1 Z r p o c j M1 = wI M1 (o + (50 + i)) 3 (mI M1 (o + 5) 0) := fun M1 h => by
    rw [← h]
    rcases hc with h | h <;> subst h <;> rfl
  refine ⟨_, rfl, CI_wI C (.inr (.inl (by omega))) (by unfold hot isX; omega), by rw [wI_o (.inl (by omega))]; exact h6, ?_⟩
  show sim r _ (stp2 Z r p o (c, j) M)
  unfold stp2
  rw [e0 _ (by rw [lsn_at ho]; exact hi)]
  intro q
  unfold at'
  rw [wI_o (a := r) (b := o + 5) (.inl (by omega)), wI_cm (a := r) (b := o + (50 + i)) (.inl (by omega)), wI_2]
theorem C_lnO {Z g ps vs : Nat → Nat} {K r p o : Nat} {M0 : gMem} (W : CWd Z g ps vs K r p o M0) {k : Nat} {M : gMem} (C : CI r o M0 M) (h6 : mI M r 6 = nI k) (hk : k ≤ K) (h7 : g k = 7) : CRl Z r p o M0 M (lnO g k) (f_X6_goLine Z M r) := by
  have ho := (W_ho W).2
  have hK := W.2.2.2.2.2.1
  obtain ⟨a, a1, a2⟩ := C.2.2.2.2.2.2.2.1
  have L := (W_o W C).1.2.2.2.1
  have hcn := cn_e a2 (by omega)
  -- the go is told, or there are too many
  have e0 : f_X6_goLine Z M r = b_X6_goLine_17 Z (if cn M o 4 < 24 then M else ntM r p 4 k M) r := by
    unfold f_X6_goLine b_X6_goLine_0
    rw [ck_t (C_6 W C), dr_s (W_o W C).1.1.2.2.1, ck_t (show mT M o = 7 from cT0 (sg := mI M) L), a2, hcn]
    by_cases c : a < 24
    · rw [if_pos (show nI a < (24 : Int32) from nI_lt (b := 24) c (by omega)), if_pos c]
    · rw [if_neg (fun z => by have := (nI_ltI (b := 24) (by omega) (by omega)).mp z; omega), if_neg c, C_note W C h6 hk, bd_S]
  rw [e0]
  have CN : CI r o M0 (if cn M o 4 < 24 then M else ntM r p 4 k M) := by
    by_cases c : cn M o 4 < 24
    · rw [if_pos c]; exact C
    · rw [if_neg c]; exact CI_nt ho C
  have hN6 : mI (if cn M o 4 < 24 then M else ntM r p 4 k M) r 6 = nI k := by
    by_cases c : cn M o 4 < 24
    · rw [if_pos c]; exact h6
    · rw [if_neg c, nt_6]; exact h6
  have eS : stp1 Z r p o 54 k M = noM o (if cn M o 4 < 24 then M else ntM r p 4 k M) := rfl
  generalize (if cn M o 4 < 24 then M else ntM r p 4 k M) = X at CN hN6 eS
  clear e0 hcn a2 a1 L
  obtain ⟨a, a1, a2⟩ := CN.2.2.2.2.2.2.2.1
  have LX := (W_o W CN).1.2.2.2.1
  have C1 : CI r o M0 (noM o X) := (CI_ng ho (W_fr W CN) CN).2.2.2
  have hi : lsn (noM o X) o 4 = min a 23 := by rw [(ng_l CN.2.2.2.2).2.2.2, cn_e a2 (by omega)]
  have hi2 : min a 23 < 24 := by omega
  have h1 : mI (noM o X) r 6 = nI k := by unfold noM; rw [wI_o (.inl (by omega))]; exact hN6
  have hk1 := W.2.2.2.2.2.2 k hk (by omega)
  unfold b_X6_goLine_17 b_X6_goLine_46 b_X6_goLine_77 lnO
  rw [if_pos h7, ck_t (C_6 W CN), dr_s (W_o W CN).1.1.2.2.1, ck_t (show mT X o = 7 from cT0 (sg := mI X) LX), bd_s (c_nextO LX a1 a2), ck_t (C_6 W C1), C_take W C1 h1 hk (by decide), if_pos h7, bd_S, if_neg (by decide)]
  generalize min a 23 = i at hi hi2
  have sm : sim r (at' r (k + 1) (noM o X)) (rnE Z r p o [(54, k)] M) := by
    show sim r _ (stp2 Z r p o (54, k) M)
    unfold stp2
    rw [kw_at h6]
    show sim r _ (stp1 Z r p o 54 k M)
    rw [eS]
    exact sim_at
  have C2 := CI_at (k := k + 1) ho C1
  have hi' : lsn (at' r (k + 1) (noM o X)) o 4 = i := by rw [lsn_at ho]; exact hi
  have h2 : mI (at' r (k + 1) (noM o X)) r 6 = nI (k + 1) := at_k
  generalize at' r (k + 1) (noM o X) = M2 at sm C2 hi' h2
  clear eS hN6 CN a2 a1 LX C1 h1 hi X
  refine CR_pre (e := (54, k)) sm ?_
  rw [ck_t (C_6 W C2), show mR M2 r 4 = some (r + 3) from (W_o W C2).1.1.2.2.2.2.1]
  refine CR_ev (c := 60) (q := 40) W (kwM r p (r + 3) (k + 1)) (fun X => wI X (o + (50 + i)) 0 (mI X r 8)) C2 h2 hk1 (by decide) (C_known W C2 h2 hk1 (.inr (.inl rfl))) (by rw [← hi']; rfl) (wi_at (by omega) (by omega)) CR_A (CI_kw ho C2) (fun X M3 CX e3 C3 h3 k3 eX eS => ?_)
  have LX := (W_o W CX).1.2.2.2.1
  rw [ck_t (C_6 W CX), dr_S, ck_t (show mT X _ = 2 from cTgo (sg := mI X) LX hi2), lw_S, ← e3]
  have hi3 : lsn M3 o 4 = i := by rw [eS, lsn_at ho, lsn_st ho (by omega)]; exact hi'
  clear eX eS e3 LX CX X
  refine CR_t2 W C3 h3 k3 (by decide) CR_A (fun M4 C4 h4 k4 e4 => ?_)
  have hi4 : lsn M4 o 4 = i := by rw [e4, lsn_at ho]; exact hi3
  rw [ck_t (C_6 W C4), show mR M4 r 3 = some (r + 1) from (W_o W C4).1.1.2.2.2.1]
  refine CR_ev (c := 61) (q := 40) W (kwM r p (r + 1) (k + 1 + 1 + 1)) (fun X => wI (wI X (o + (50 + i)) 1 (mI X r 8)) (o + (50 + i)) 2 (mI X (o + 5) 0)) C4 h4 k4 (by decide) (C_known W C4 h4 k4 (.inl rfl)) (by rw [← hi4, kw_o (a := o + 5) (by omega)]; rfl) (by unfold at'; rw [wI_o (a := r) (b := r) (.inr (by omega)), wI_o (a := r) (b := o + 5) (.inl (by omega)), wI_cm (a := r) (b := o + (50 + i)) (.inl (by omega)), wI_cm (a := r) (b := o + (50 + i)) (.inl (by omega))]) CR_A (CI_kw ho C4) (fun X M5 CX e5 C5 h5 k5 eX eS => ?_)
  have LX := (W_o W CX).1.2.2.2.1
  have hi5 : lsn M5 o 4 = i := by rw [eS, lsn_at ho, lsn_st ho (by omega)]; exact hi4
  have r2 : mR (wI X (o + (50 + i)) 1 (mI X r 8)) r 2 = some o := (W_o W CX).1.1.2.2.1
  have r10 : mR (wI X (o + (50 + i)) 1 (mI X r 8)) o 10 = some (o + 5) := cR0_10 (sg := mI X) LX
  have i5 : mI (wI X (o + (50 + i)) 1 (mI X r 8)) (o + 5) 0 = mI X (o + 5) 0 := wI_o (.inl (by omega))
  rw [ck_t (C_6 W CX), ck_t (show mT X _ = 2 from cTgo (sg := mI X) LX hi2), lw_S, r2, dr_S, ck_t (show mT (wI X (o + (50 + i)) 1 (mI X r 8)) o = 7 from cT0 (sg := mI X) LX), r10, dr_S, ck_t (show mT (wI X (o + (50 + i)) 1 (mI X r 8)) (o + 5) = 8 from cT5 (sg := mI X) LX), lw_S, i5, ← e5]
  clear eX eS e5 LX CX r2 r10 i5 X
  rw [C_take W C5 h5 k5 (by decide)]
  by_cases c9 : g (k + 1 + 1 + 1 + 1) = 9
  · have C6 := CI_at (k := k + 1 + 1 + 1 + 1 + 1) ho C5
    have hk6 := W.2.2.2.2.2.2 _ k5 (by omega)
    rw [if_pos c9, if_pos c9, bd_S, if_neg (by decide), ck_t (C_6 W C6)]
    refine CR_sh (j := k + 1 + 1 + 1 + 1 + 1) (CR_sq2 (C_Px W 64 0 _ 0 _ (by decide) C6 at_k hk6 (by decide)) CR_A (fun es M7 e he C7 h7 sm7 => ?_))
    have hi7 : lsn M7 o 4 = i := by
      unfold lsn cn at hi5 ⊢
      rw [sim_I sm7 (.inl (by omega)), rn_cnt ho es _ (fun y hy => .inl (by have := AC_Px W.2.2.2.2.1 64 0 _ 0 es e he y hy; omega)), show mI (at' r (k + 1 + 1 + 1 + 1 + 1) M5) o 4 = mI M5 o 4 from wI_o (.inl (by omega))]
      exact hi5
    exact C_121 W C7 h7 (FP_e ((FP_Px W.2.2.2.2.2.2 64 0 _ 0 hk6).1 (by decide)) he).1 (.inl rfl) hi7 hi2
  · rw [if_neg c9, if_neg c9, bd_S, if_pos rfl]
    exact C_121 W C5 h5 k5 (.inr rfl) hi5 hi2

