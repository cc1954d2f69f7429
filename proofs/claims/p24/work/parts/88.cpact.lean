/-! ## Pure: the class's line of a pact -/
def shI (o : Nat) (M : gMem) : Nat → Nat → Int32 := fun d k => mI M (o + d) k
theorem shI_s (o : Nat) (M : gMem) : sC o (shI o M) M = M := by
  unfold sC shI
  have e : (fun a k => if o ≤ a ∧ a < o + 86 then mI M (o + (a - o)) k else mI M a k) = mI M := by
    funext a k
    by_cases c : o ≤ a ∧ a < o + 86
    · rw [if_pos c, show o + (a - o) = a by omega]
    · rw [if_neg c]
  rw [e, sI_self]
theorem C_has {Z g ps vs : Nat → Nat} {K r p o : Nat} {M0 : gMem} (W : CWd Z g ps vs K r p o M0) {i n : Nat} {v : Int32} {M : gMem} (C : CI r o M0 M) (hi : i < 6) : f_X5_has M (o + (74 + 2 * i)) v = some (cif (hsP M o i v) 1 0, M) := by
  have L := (W_o W C).1.2.2.2.1
  obtain ⟨c, c1, c2⟩ := C.2.2.2.2.2.2.2.2.2.2 i hi
  have key := s5_has (sg := shI o M) (x := v) L hi c2 c1
  rw [shI_s] at key
  unfold hsP
  rw [cn_e c2 (by omega)]
  exact key
theorem pa_at {r a j : Nat} {v : Int32} {M : gMem} (h : a ≠ r ∧ a + 1 ≠ r) : paM a v (at' r j M) = at' r j (paM a v M) := by
  have e1 : cn (at' r j M) a 3 = cn M a 3 := by
    unfold cn at'
    rw [wI_o (.inl h.1)]
  unfold paM
  rw [e1]
  by_cases c : cn M a 3 < 8
  · rw [if_pos c, if_pos c]
    unfold at'
    rw [wI_cm (a := r) (b := a + 1) (.inl (Ne.symm h.2)), wI_cm (a := r) (b := a) (.inl (Ne.symm h.1))]
  · rw [if_neg c, if_neg c]
theorem C_memb {Z g ps vs : Nat → Nat} {K r p o : Nat} {M0 : gMem} (W : CWd Z g ps vs K r p o M0) {k : Nat} {M : gMem} (C : CI r o M0 M) (h6 : mI M r 6 = nI k) (hk : k ≤ K) : f_X6_takeMember Z M r (some (o + (74 + 2 * lsn M o 5))) = if g k = 40 then some ((1 : Int32), at' r (k + 1) (stp1 Z r p o 62 k M)) else some ((0 : Int32), M) := by
  have ho := (W_ho W).2
  have hi := (SF_n C.2.2.2.2).2.2.2
  have hK := W.2.2.2.2.2.1
  obtain ⟨⟨⟨t1, r1, -⟩, ⟨t2, -, -, r4, -, -, -, -, t5, l5⟩, bX, -⟩, T⟩ := W_o W C
  have L := (W_o W C).1.2.2.2.1
  have q : inb (nI k) 401 := (inbN (by omega)).mpr (by omega)
  have hx : isX r (r + 3) := .inr (.inl rfl)
  have r14 : mR M r 4 = some (r + 3) := (W_o W C).1.1.2.2.2.2.1
  have e0 : stp1 Z r p o 62 k M = paM (o + (74 + 2 * lsn M o 5)) (mI (kwM r p (r + 3) k (cif (hsP M o (lsn M o 5) (fnd M (r + 3) (mJ M (p + 4) k))) (ntM r p 6 k M) M)) r 8) (kwM r p (r + 3) k (cif (hsP M o (lsn M o 5) (fnd M (r + 3) (mJ M (p + 4) k))) (ntM r p 6 k M) M)) := rfl
  -- behind the question whether it is told twice
  have key : ∀ X, CI r o M0 X → mI X r 6 = nI k → b_X6_takeMember_42 Z X r (some (o + (74 + 2 * lsn M o 5))) = if g k = 40 then some ((1 : Int32), at' r (k + 1) (paM (o + (74 + 2 * lsn M o 5)) (mI (kwM r p (r + 3) k X) r 8) (kwM r p (r + 3) k X))) else some ((0 : Int32), X) := fun X CX h => by
    have CK := CI_at (k := k + 1) ho (CI_kw (p := p) (x := r + 3) (k := k) ho CX)
    have LK := (W_o W CK).1.2.2.2.1
    obtain ⟨c, c1, c2⟩ := CK.2.2.2.2.2.2.2.2.2.2 _ hi
    unfold b_X6_takeMember_42
    rw [ck_t (C_6 W CX), show mR X r 4 = some (r + 3) from (W_o W CX).1.1.2.2.2.2.1, C_known W CX h hk hx]
    by_cases d : g k = 40
    · rw [if_pos d, if_pos d, bd_S, if_neg (by decide), ck_t (C_6 W CK), dr_S, ck_t (show mT (at' r (k + 1) (kwM r p (r + 3) k X)) _ = 5 from cTp (sg := mI (at' r (k + 1) (kwM r p (r + 3) k X))) LK hi), c_padd LK hi c1 c2, bd_S, pa_at (by omega), show mI (at' r (k + 1) (kwM r p (r + 3) k X)) r 8 = mI (kwM r p (r + 3) k X) r 8 from wI_o (.inr (by omega))]
    · rw [if_neg d, if_neg d, bd_S, if_pos rfl]
  unfold f_X6_takeMember b_X6_takeMember_0
  rw [ck_t t1, C_sign W C h6 hk, bd_S]
  by_cases c : g k = 40
  · rw [if_pos (show some (Z (g k)) = some (Z 40) by rw [c]), if_pos c, ck_t t1, dr_s r1, ck_t t2, dr_s r4, ck_t t5, h6, l5, ck_t q, dr_s r14, ck_t (bX _ hx).1, nI_clamp (by omega), C_find W C hx, bd_S, dr_S, ck_t (show mT M _ = 5 from cTp (sg := mI M) L hi), C_has (n := 0) W C hi, bd_S, e0]
    by_cases d : hsP M o (lsn M o 5) (fnd M (r + 3) (mJ M (p + 4) k))
    · rw [cif_t d, cif_t d, if_neg (by decide), ck_t t1, C_note W C h6 hk, bd_S, key _ (CI_nt ho C) (by rw [nt_6]; exact h6), if_pos c]
    · rw [cif_f d, cif_f d, if_pos rfl, key _ C h6, if_pos c]
  · have q0 : ¬ some (Z (g k)) = some (Z 40) := fun e => c (W.2.2.2.1 _ _ (W.2.2.2.2.1 k) (by omega) (Option.some.inj e))
    rw [if_neg q0, key _ C h6, if_neg c, if_neg c]
theorem lp_oI1 {α β : Type} {f : α → Option (α ⊕ β)} {a : α} {x : Option β} (h : f a = oI x) : lp f a = x := by
  rw [lp_eq, h]
  cases x <;> rfl
/-- members, and what follows them -/
theorem C_mbL {Z g ps vs : Nat → Nat} {K r p o : Nat} {M0 : gMem} (W : CWd Z g ps vs K r p o M0) {i : Nat} {f : Nat → Option (Option (List (Nat × Nat)) × Nat)} (hB : ∀ M k, CI r o M0 M → mI M r 6 = nI k → k ≤ K → lsn M o 5 = i → CRl Z r p o M0 M (f k) (b_X6_pactLine_86 Z M r (some (o + (74 + 2 * i))))) : ∀ m c k M, CI r o M0 M → mI M r 6 = nI k → k ≤ K → c < k → lsn M o 5 = i → CRl Z r p o M0 M (sq (mbL g m k) f) (lp_X6_pactLine_53 Z M r (some (o + (74 + 2 * i))) (nI c))
  | 0, _, _, _, _, _, _, _, _ => trivial
  | m + 1, c, k, M, C, h6, hk, hck, hi => by
    have ho := (W_ho W).2
    have hK := W.2.2.2.2.2.1
    have q1 : ¬ (400 : Int32) ≤ nI c := fun z => by have := (nI_leI (a := 400) (by omega) (by omega)).mp z; omega
    rw [mbL]
    by_cases c3 : g k = 30
    · rw [if_pos c3]
      have hk1 := W.2.2.2.2.2.2 k hk (by omega)
      have C1 := CI_at (k := k + 1) ho C
      have e1 : bb_X6_pactLine_53 Z M r (some (o + (74 + 2 * i))) (nI c) = if g (k + 1) = 40 then some (.inl (at' r (k + 1 + 1) (stp1 Z r p o 62 (k + 1) (at' r (k + 1) M)), nI (c + 1))) else some (.inr ((0 : Int32), at' r (k + 1) M)) := by
        have ef := C_memb W C1 at_k hk1
        rw [lsn_at ho, hi] at ef
        unfold bb_X6_pactLine_53
        rw [if_neg q1, ck_t (C_6 W C), C_take W C h6 hk (by decide), if_pos c3, bd_S, if_neg (by decide), ck_t (C_6 W C1), ef]
        by_cases d : g (k + 1) = 40
        · rw [if_pos d, if_pos d, bd_S, if_neg (by decide), nI_1]
        · rw [if_neg d, if_neg d, bd_S, if_pos rfl]
          rfl
      unfold nm
      by_cases d : g (k + 1) = 40
      · rw [if_pos d] at e1 ⊢
        have C2 : CI r o M0 (at' r (k + 1 + 1) (stp1 Z r p o 62 (k + 1) (at' r (k + 1) M))) := CI_at ho (CI_s1 W C1)
        have hk2 := W.2.2.2.2.2.2 (k + 1) hk1 (by omega)
        have key := C_mbL W (i := i) hB m (c + 1) (k + 1 + 1) _ C2 at_k hk2 (by omega) (by rw [lsn_at ho, lsn_st ho (by omega), lsn_at ho]; exact hi)
        have e2 : lp_X6_pactLine_53 Z M r (some (o + (74 + 2 * i))) (nI c) = lp_X6_pactLine_53 Z (at' r (k + 1 + 1) (stp1 Z r p o 62 (k + 1) (at' r (k + 1) M))) r (some (o + (74 + 2 * i))) (nI (c + 1)) := lp_in e1
        rw [e2, sq_as]
        exact CR_pre (M1 := at' r (k + 1 + 1) (stp1 Z r p o 62 (k + 1) (at' r (k + 1) M))) sim_at key
      · rw [if_neg d] at e1 ⊢
        exact ⟨_, lp_out e1, C1, at_k⟩
    · rw [if_neg c3]
      have key := hB M k C h6 hk hi
      have e1 : lp_X6_pactLine_53 Z M r (some (o + (74 + 2 * i))) (nI c) = b_X6_pactLine_86 Z M r (some (o + (74 + 2 * i))) := by
        refine lp_oI1 ?_
        show bb_X6_pactLine_53 Z M r (some (o + (74 + 2 * i))) (nI c) = _
        unfold bb_X6_pactLine_53
        rw [if_neg q1, ck_t (C_6 W C), C_take W C h6 hk (by decide), if_neg c3, bd_S, if_pos rfl]
      rw [e1]
      show CRl Z r p o M0 M (match f k with
        | none => none
        | some (none, k1) => some (none, k1)
        | some (some es1, k1) => some (some ([] ++ es1), k1)) _
      match f k, key with
      | none, _ => trivial
      | some (none, e1), key => exact key
      | some (some es1, e1), key => exact key
theorem C_86 {Z g ps vs : Nat → Nat} {K r p o : Nat} {M0 : gMem} (W : CWd Z g ps vs K r p o M0) {i k : Nat} {M : gMem} (C : CI r o M0 M) (h6 : mI M r 6 = nI k) (hk : k ≤ K) (hi : lsn M o 5 = i) (hi2 : i < 6) : CRl Z r p o M0 M (if g k = 12 then some (some [], k + 1) else sq (tk1 g 13 k) fun k => sq (nm g 63 k) fun k => sq (tk1 g 14 k) fun k => sq (Px g 64 4 k 0) (em (65, k))) (b_X6_pactLine_86 Z M r (some (o + (74 + 2 * i)))) := by
  have ho := (W_ho W).2
  unfold b_X6_pactLine_86 b_X6_pactLine_119 b_X6_pactLine_161
  rw [ck_t (C_6 W C), C_take W C h6 hk (by decide)]
  by_cases c : g k = 12
  · rw [if_pos c, if_pos c, bd_S, if_neg (by decide)]
    exact ⟨_, rfl, CI_at ho C, at_k, sim_at⟩
  rw [if_neg c, if_neg c, bd_S, if_pos rfl, ck_t (C_6 W C)]
  refine CR_t2 W C h6 hk (by decide) CR_A (fun M1 C1 h1 k1 e1 => ?_)
  have hi1 : lsn M1 o 5 = i := by rw [e1, lsn_at ho]; exact hi
  rw [ck_t (C_6 W C1), show mR M1 r 3 = some (r + 1) from (W_o W C1).1.1.2.2.2.1]
  refine CR_ev (c := 63) (q := 40) W (kwM r p (r + 1) (k + 1)) (fun X => wI (wI X (o + (74 + 2 * i)) 0 (mI X r 8)) (o + (74 + 2 * i)) 1 (mI X (o + 5) 0)) C1 h1 k1 (by decide) (C_known W C1 h1 k1 (.inl rfl)) (by rw [← hi1, kw_o (a := o + 5) (by omega)]; rfl) (by unfold at'; rw [wI_o (a := r) (b := r) (.inr (by omega)), wI_o (a := r) (b := o + 5) (.inl (by omega)), wI_cm (a := r) (b := o + (74 + 2 * i)) (.inl (by omega)), wI_cm (a := r) (b := o + (74 + 2 * i)) (.inl (by omega))]) CR_A (CI_kw ho C1) (fun X M2 CX e2 C2 h2 k2 eX eS => ?_)
  have LX := (W_o W CX).1.2.2.2.1
  have hi2' : lsn M2 o 5 = i := by rw [eS, lsn_at ho, lsn_st ho (by omega)]; exact hi1
  have r2 : mR (wI X (o + (74 + 2 * i)) 0 (mI X r 8)) r 2 = some o := (W_o W CX).1.1.2.2.1
  have r10 : mR (wI X (o + (74 + 2 * i)) 0 (mI X r 8)) o 10 = some (o + 5) := cR0_10 (sg := mI X) LX
  have i5 : mI (wI X (o + (74 + 2 * i)) 0 (mI X r 8)) (o + 5) 0 = mI X (o + 5) 0 := wI_o (.inl (by omega))
  rw [ck_t (C_6 W CX), dr_S, ck_t (show mT X _ = 5 from cTp (sg := mI X) LX hi2), lw_S, r2, dr_S, ck_t (show mT (wI X (o + (74 + 2 * i)) 0 (mI X r 8)) o = 7 from cT0 (sg := mI X) LX), r10, dr_S, ck_t (show mT (wI X (o + (74 + 2 * i)) 0 (mI X r 8)) (o + 5) = 8 from cT5 (sg := mI X) LX), lw_S, i5, ← e2]
  clear eX eS e2 LX CX r2 r10 i5 X
  refine CR_t2 W C2 h2 k2 (by decide) CR_A (fun M3 C3 h3 k3 e3 => ?_)
  have hi3 : lsn M3 o 5 = i := by rw [e3, lsn_at ho]; exact hi2'
  rw [ck_t (C_6 W C3)]
  refine CR_sq2 (C_Px W 64 4 _ 0 _ (by decide) C3 h3 k3 (by decide)) CR_A (fun es M4 e he C4 h4 sm4 => ?_)
  have hi4 : lsn M4 o 5 = i := by
    unfold lsn cn at hi3 ⊢
    rw [sim_I sm4 (.inl (by omega)), rn_cnt ho es _ (fun y hy => .inl (by have := AC_Px W.2.2.2.2.1 64 4 _ 0 es e he y hy; omega))]
    exact hi3
  have he4 := (FP_e ((FP_Px W.2.2.2.2.2.2 64 4 _ 0 k3).1 (by decide)) he).1
  have L4 := (W_o W C4).1.2.2.2.1
  rw [ck_t (C_6 W C4), dr_s (W_o W C4).1.1.2.2.1, ck_t (show mT M4 o = 7 from cT0 (sg := mI M4) L4), show mR M4 o 10 = some (o + 5) from cR0_10 (sg := mI M4) L4, dr_S, ck_t (show mT M4 (o + 5) = 8 from cT5 (sg := mI M4) L4), ck_t (show mT M4 _ = 5 from cTp (sg := mI M4) L4 hi2), lw_S]
  refine ⟨_, rfl, CI_wI C4 (.inr (.inl (by omega))) (by unfold hot isX; omega), by rw [wI_o (.inl (by omega))]; exact h4, ?_⟩
  show sim r _ (stp2 Z r p o (65, _) M4)
  unfold stp2
  have e0 : ∀ M1 j, lsn M1 o 5 = i → stp1 Z r p o 65 j M1 = wI M1 (o + (74 + 2 * i)) 2 (mI M1 (o + 5) 0) := fun M1 j h => by
    rw [← h]
    rfl
  show sim r _ (stp1 Z r p o 65 _ _)
  rw [e0 _ _ (by rw [lsn_at ho]; exact hi4)]
  intro q
  unfold at'
  rw [wI_o (a := r) (b := o + 5) (.inl (by omega)), wI_cm (a := r) (b := o + (74 + 2 * i)) (.inl (by omega)), wI_2]
theorem C_lnP {Z g ps vs : Nat → Nat} {K r p o : Nat} {M0 : gMem} (W : CWd Z g ps vs K r p o M0) {k : Nat} {M : gMem} (C : CI r o M0 M) (h6 : mI M r 6 = nI k) (hk : k ≤ K) : CRl Z r p o M0 M (lnP g k) (f_X6_pactLine Z M r) := by
  have ho := (W_ho W).2
  unfold f_X6_pactLine b_X6_pactLine_0 b_X6_pactLine_21 b_X6_pactLine_49 lnP
  rw [ck_t (C_6 W C)]
  refine CR_t2 W C h6 hk (by decide) CR_A (fun M1 C1 h1 k1 e1 => ?_)
  rw [ck_t (C_6 W C1), show mR M1 r 5 = some (r + 5) from (W_o W C1).1.1.2.2.2.2.2]
  refine CR_ev (c := 53) (q := 40) W (nwM r p (r + 5) (k + 1)) (npM o) C1 h1 k1 (by decide) (C_new W C1 h1 k1 (.inr (.inr rfl))) rfl (ng_at ho).2.2.1 CR_A (CI_nw ho (.inr (.inr rfl)) C1) (fun X M2 CX e2 C2 h2 k2 eX eS => ?_)
  obtain ⟨a, a1, a2⟩ := CX.2.2.2.2.2.2.2.2.1
  have LX := (W_o W CX).1.2.2.2.1
  have hi : lsn M2 o 5 = min a 5 := by rw [e2, (ng_l CX.2.2.2.2).2.2.1, cn_e a2 (by omega)]
  have hi7 : min a 5 < 6 := by omega
  rw [ck_t (C_6 W CX), dr_s (W_o W CX).1.1.2.2.1, ck_t (show mT X o = 7 from cT0 (sg := mI X) LX), bd_s (c_nextP LX a1 a2), ← e2, ck_t (C_6 W C2)]
  generalize min a 5 = i at hi hi7
  clear eX eS e2 a1 a2 LX CX X
  refine CR_t2 W C2 h2 k2 (by decide) CR_A (fun M3 C3 h3 k3 e3 => ?_)
  have hi3 : lsn M3 o 5 = i := by rw [e3, lsn_at ho]; exact hi
  rw [ck_t (C_6 W C3), ← hi3]
  refine CR_ev (c := 62) (q := 40) W (stp1 Z r p o 62 (k + 1 + 1 + 1)) (fun X => X) C3 h3 k3 (by decide) (C_memb W C3 h3 k3) rfl rfl CR_A (CI_s1 W C3) (fun X M4 CX e4 C4 h4 k4 eX eS => ?_)
  have hi4 : lsn M4 o 5 = i := by rw [eS, lsn_at ho, lsn_st ho (by omega)]; exact hi3
  rw [← e4, hi3]
  exact C_mbL W (fun M k C h6 hk hi => C_86 W C h6 hk hi hi7) 401 0 _ M4 C4 h4 k4 (by omega) hi4

