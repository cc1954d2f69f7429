/-! ## Pure: empty on both sides -/
/-- the first of the numbers k, k + 1 .. (r of them) at which there is nothing -/
def emV (fz : Nat → Int32) : Nat → Nat → Int32
  | 0, _ => -1
  | r + 1, k => if fz k = 0 then nI k else emV fz r (k + 1)
theorem OFr_t {pg : Nat → Nat} {o' len F G np ng n : Nat} {M X1 : gMem} {A' : Nat → Nat → Int32} (O : OFr o' M X1) (W : WS (cutF 86 o' X1) F G np ng) (D : WD (cutF 86 o' X1) F G) (h : nz A' = tidesA pg len np ng F G (nz (cutF 86 o' X1)) n) : OFr o' M (sC o' A' X1) := by
  have W0 : WS (nz (cutF 86 o' X1)) F G np ng := WS_c (eqT_nz _) W
  have D0 : WD (nz (cutF 86 o' X1)) F G := WD_nz.mpr D
  have hA' : ∀ d, (d < 8 ∨ 11 < d) → A' d = tidesA pg len np ng F G (nz (cutF 86 o' X1)) n d := fun d hd => by rw [← h, nz_e hd]
  obtain ⟨tw1, tw2⟩ := tides_W (pg := pg) (len := len) W0 D0 n
  refine ⟨O.1, O.2.1, O.2.2.1, O.2.2.2.1, O.2.2.2.2.1, fun a ha => ?_, fun q hq => ?_⟩
  · rw [← O.2.2.2.2.2.1 a ha]
    by_cases z : a < o' ∨ o' + 86 ≤ a
    · funext k
      exact sC_Io z
    · obtain ⟨d, rfl⟩ : ∃ d, a = o' + d := ⟨a - o', by omega⟩
      funext k
      rw [sC_I (by omega), hA' d (by omega), tides_o W0 D0 (by omega) n, nz_e (by omega), cutF_e (by omega)]
  · obtain ⟨c, z1, z2⟩ := O.2.2.2.2.2.2 q hq
    refine ⟨c, z1, ?_⟩
    rw [sC_I (by omega), hA' _ (by omega), tw1 _ 3 (by unfold told; omega), nz_e (by omega), cutF_e (by omega)]
    exact z2
theorem gcell {α : Type} {X : gMem} {o f : Nat} {k : Nat → Nat → Option α} (L : LC o X) (hf : f < 8) : (ck (mT X o = 7) <| dr (mR X o 6) fun a => ck (mT X a = 23) <| ck (inb (nI f) (mL X a)) <| dr (mR X a (nI f).toNatClampNeg) fun c => ck (mT X c = 3) <| k a c) = k (o + 1) (o + (18 + 2 * f)) := by
  rw [ck_t (lTo L), dr_s (lR0_6 L), ck_t (lT_1 L), ck_t (show inb (nI f) (mL X (o + 1)) by rw [lL_1 L]; exact (inbN (by omega)).mpr hf), dr_s (show mR X (o + 1) (nI f).toNatClampNeg = some (o + (18 + 2 * f)) by rw [nI_clamp (by omega)]; exact lRrg L hf), ck_t (lTg L hf)]
theorem c_empty {Z pg : Nat → Nat} {o' len F G np ng g : Nat} {M X1 : gMem} (L' : LC o' M) (O : OFr o' M X1) (P : PG Z pg o' len X1 (cutF 86 o' X1)) (W : WS (cutF 86 o' X1) F G np ng) (D : WD (cutF 86 o' X1) F G) (hg : g < 8) : ∀ r k A', k + r = 101 → nz A' = tidesA pg len np ng F G (nz (cutF 86 o' X1)) (k - 1) → ∃ X2, OFr o' M X2 ∧ lp_X11_empty_12 Z (sC o' A' X1) (nI g) (some o') (nI k) = some (.inr (emV (fun j => sum5 (tidesA pg len np ng F G (nz (cutF 86 o' X1)) j (19 + 2 * g)) 5) r k), X2)
  | 0, k, A', hk, hA => by
    refine ⟨_, OFr_t O W D hA, ?_⟩
    have e : k = 101 := by omega
    subst e
    unfold lp_X11_empty_12
    refine lp_out ?_
    show bb_X11_empty_12 Z (sC o' A' X1) (nI g) (some o') (nI 101) = _
    unfold bb_X11_empty_12
    rw [if_pos (by decide)]
    rfl
  | r + 1, k, A', hk, hA => by
    have LX : LC o' X1 := OFr_LC O L' (fun z => absurd rfl z)
    have q1 : ¬ (100 : Int32) < nI k := fun z => by have := (nI_ltI (a := 100) (by omega) (by omega)).mp z; omega
    have W0 : WS (nz (cutF 86 o' X1)) F G np ng := WS_c (eqT_nz _) W
    have D0 : WD (nz (cutF 86 o' X1)) F G := WD_nz.mpr D
    -- behind the tide
    have step : ∃ A2, nz A2 = tidesA pg len np ng F G (nz (cutF 86 o' X1)) k ∧ bb_X11_empty_12 Z (sC o' A' X1) (nI g) (some o') (nI k) = b_X11_empty_28 Z (sC o' A2 X1) (nI g) (some o') (nI k) := by
      by_cases q2 : k = 0
      · subst q2
        refine ⟨A', hA, ?_⟩
        unfold bb_X11_empty_12
        rw [if_neg q1, if_pos (by decide)]
      · have q3 : ¬ nI k ≤ 0 := fun z => by have := (nI_leI (b := 0) (by omega) (by omega)).mp z; omega
        obtain ⟨tw1, tw2⟩ := tides_W (pg := pg) (len := len) W0 D0 (k - 1)
        rw [← hA] at tw1 tw2
        have eT : eqT (cutF 86 o' X1) A' := eqT_of tw1
        obtain ⟨A2, y1, y2⟩ := s7_passTides (n := 1) LX (⟨PG_T P eT, WS_c eT W, WD_nz.mp tw2⟩ : WW Z pg o' len X1 F G np ng A') (by omega)
        refine ⟨A2, ?_, ?_⟩
        · rw [y2, hA, show k = k - 1 + 1 by omega]
          rfl
        · unfold bb_X11_empty_12
          rw [if_neg q1, if_neg q3, dr_S, ck_t (show mT (sC o' A' X1) o' = 7 from lTo LX), show f_X7_passTides Z (sC o' A' X1) o' 1 = _ from y1]
          rfl
    obtain ⟨A2, hA2, e1⟩ := step
    have fs : f_X3_allFish (sC o' A2 X1) (o' + (18 + 2 * g)) = some (sum5 (tidesA pg len np ng F G (nz (cutF 86 o' X1)) k (19 + 2 * g)) 5, sC o' A2 X1) := by
      rw [s_allFish (af := o' + (19 + 2 * g)) (lTg (M := sC o' A2 X1) LX hg) (lRg (M := sC o' A2 X1) LX hg) (lTgf (M := sC o' A2 X1) LX hg) (lLgf (M := sC o' A2 X1) LX hg)]
      have : mI (sC o' A2 X1) (o' + (19 + 2 * g)) = tidesA pg len np ng F G (nz (cutF 86 o' X1)) k (19 + 2 * g) := by
        funext i
        rw [sC_I (by omega), ← hA2, nz_e (by omega)]
      rw [this]
    have e2 : b_X11_empty_28 Z (sC o' A2 X1) (nI g) (some o') (nI k) = if sum5 (tidesA pg len np ng F G (nz (cutF 86 o' X1)) k (19 + 2 * g)) 5 = 0 then some (.inr (.inr (nI k), sC o' A2 X1)) else some (.inl (sC o' A2 X1, nI (k + 1))) := by
      unfold b_X11_empty_28
      rw [dr_S, gcell (X := sC o' A2 X1) LX hg, bd_s fs, nI_1]
      rfl
    rw [e2] at e1
    by_cases w : sum5 (tidesA pg len np ng F G (nz (cutF 86 o' X1)) k (19 + 2 * g)) 5 = 0
    · rw [if_pos w] at e1
      refine ⟨_, OFr_t O W D hA2, ?_⟩
      rw [emV, if_pos w]
      exact lp_out (f := fun (q : gMem × Int32) => bb_X11_empty_12 Z q.1 (nI g) (some o') q.2) e1
    · rw [if_neg w] at e1
      obtain ⟨X2, O2, e3⟩ := c_empty L' O P W D hg r (k + 1) A2 (by omega) hA2
      refine ⟨X2, O2, ?_⟩
      rw [emV, if_neg w, ← e3]
      exact lp_in (f := fun (q : gMem × Int32) => bb_X11_empty_12 Z q.1 (nI g) (some o') q.2) e1
theorem r_empty {pg : Nat → Nat} {m t F G len np ng g : Nat} {A : Nat → Nat → Int32} {X : gMem} (L : LSt m t (m + 41) X) (h14 : mR X m 14 = some (m + 41)) {sq : Nat → Nat → Nat → Int32} (hg : g < G) (hG : G ≤ 8) (hs : ∀ j, RS (tidesA pg len np ng F G A j) (sq j) F G np ∧ f_X12_pass (bC 17 (m + 41) (sq j) X) (m + 41) = some ((), bC 17 (m + 41) (sq (j + 1)) X)) : ∀ r k, k + r = 101 → ∃ st, lp_X14_empty_32 (bC 17 (m + 41) (sq k) X) m (nI g) (nI k) = some (emV (fun j => sum5 (tidesA pg len np ng F G A j (19 + 2 * g)) 5) r k, bC 17 (m + 41) st X)
  | 0, k, hk => by
    have e : k = 101 := by omega
    subst e
    refine ⟨sq 101, ?_⟩
    unfold lp_X14_empty_32
    refine lp_out ?_
    show bb_X14_empty_32 (bC 17 (m + 41) (sq 101) X) m (nI g) (nI 101) = _
    unfold bb_X14_empty_32
    rw [if_pos (by decide)]
    rfl
  | r + 1, k, hk => by
    have q1 : ¬ (100 : Int32) < nI k := fun z => by have := (nI_ltI (a := 100) (by omega) (by omega)).mp z; omega
    have fs : f_X12_fishAt (bC 17 (m + 41) (sq k) X) (m + 41) (nI g) = some (sum5 (tidesA pg len np ng F G A k (19 + 2 * g)) 5, bC 17 (m + 41) (sq k) X) := by
      rw [r_fishAt L (by omega)]
      congr 2
      exact (sum5_N 5 (f := tidesA pg len np ng F G A k (19 + 2 * g)) (h := fun i => sq k 1 (5 * g + i)) (fun i hi => ((hs k).1.1.2.1 g i hg hi).symm)).symm
    have e1 : bb_X14_empty_32 (bC 17 (m + 41) (sq k) X) m (nI g) (nI k) = if sum5 (tidesA pg len np ng F G A k (19 + 2 * g)) 5 = 0 then some (.inr (nI k, bC 17 (m + 41) (sq k) X)) else some (.inl (bC 17 (m + 41) (sq (k + 1)) X, nI (k + 1))) := by
      unfold bb_X14_empty_32
      rw [if_neg q1, ck_t (show mT (bC 17 (m + 41) (sq k) X) m = 13 from L.1.2.2.1), dr_s (show mR (bC 17 (m + 41) (sq k) X) m 14 = some (m + 41) from h14), ck_t (show mT (bC 17 (m + 41) (sq k) X) (m + 41) = 11 from L.1.1), bd_s fs]
      by_cases w : sum5 (tidesA pg len np ng F G A k (19 + 2 * g)) 5 = 0
      · rw [if_pos w, if_pos w]
        rfl
      · rw [if_neg w, if_neg w, ck_t (show mT (bC 17 (m + 41) (sq k) X) m = 13 from L.1.2.2.1), dr_s (show mR (bC 17 (m + 41) (sq k) X) m 14 = some (m + 41) from h14), ck_t (show mT (bC 17 (m + 41) (sq k) X) (m + 41) = 11 from L.1.1), bd_s (hs k).2, nI_1]
    by_cases w : sum5 (tidesA pg len np ng F G A k (19 + 2 * g)) 5 = 0
    · rw [if_pos w] at e1
      refine ⟨sq k, ?_⟩
      rw [emV, if_pos w]
      exact lp_out (f := fun (q : gMem × Int32) => bb_X14_empty_32 q.1 m (nI g) q.2) e1
    · rw [if_neg w] at e1
      obtain ⟨st, e3⟩ := r_empty L h14 hg hG hs r (k + 1) (by omega)
      refine ⟨st, ?_⟩
      rw [emV, if_neg w, ← e3]
      exact lp_in (f := fun (q : gMem × Int32) => bb_X14_empty_32 q.1 m (nI g) q.2) e1
theorem T_empty {Z : Nat → Nat} {b m o o' t n kb : Nat} {T : Nat → Nat} {M : gMem} {x : Int32} (S : STv Z b m o o' t n kb T M) : ∃ r M1 v M2, f_X11_empty Z M b x = some (r, M1) ∧ f_X14_empty M1 m x = some (v, M2) ∧ AGR 2 9 r v (mI M2 m 0) ∧ STv Z b m o o' t n kb T M2 ∧ mN M2 = mN M := by
  obtain ⟨c1, c2, LCo, c3, cA⟩ := STv_c S
  obtain ⟨e1, e2, e3, LA, eS, eI, e4, e5, e6⟩ := STv_m 0 S
  obtain ⟨p1, p2, p3, p4, p5, p6, p7, p8, p9, p10, p11, -, -⟩ := STv_p S
  obtain ⟨pg, len, F, G, np, ng, ⟨h1, P, W, D, TRr, R, V⟩, hG, hF, g2, g3, x0, x4, t13⟩ := STv_w S
  have hp6 : np ≤ 6 := W.2.2.2.2.1.2.1
  have hng : ng ≤ 24 := W.2.2.2.2.2.1.2.1
  by_cases hx : ∃ a, a < G ∧ x = nI a
  · have xx := hx
    obtain ⟨g, hg, rfl⟩ := xx
    have hg8 : g < 8 := by omega
    obtain ⟨X1, x1, O1, C1, P1⟩ := c_look S (OFr_0 p10) P W R
    have W1 := WS_k C1 W
    have D1 := WD_k C1 D
    have W0 : WS (nz (cutF 86 o' X1)) F G np ng := WS_c (eqT_nz _) W1
    have D0 : WD (nz (cutF 86 o' X1)) F G := WD_nz.mpr D1
    obtain ⟨X2, O2, l2⟩ := c_empty p8 O1 P1 W1 D1 hg8 101 0 (cutF 86 o' X1) rfl rfl
    rw [sC_cut] at l2
    have AF : AFr m o' M (wI X2 m 0 0) := AFr_w (by omega) (AFr_O (by omega) O2)
    obtain ⟨X, hX⟩ : ∃ X, X = wI X2 m 0 0 := ⟨_, rfl⟩
    rw [← hX] at AF
    obtain ⟨a1, a2, a3, a4, LA', LB', aT, aS, a5⟩ := m_AF S AF
    obtain ⟨st', b1, R'⟩ := m_look S AF hF hG hp6 R
    obtain ⟨sq, q0, qs⟩ := r_seq LB' (TR_T hG hF hp6 hng (eqT_nz (cutF 86 o' X1)) (TR_cg (fun _ _ _ => rfl) hF hG hp6 hng aT (TR_k C1 TRr))) W0 D0 (RS_nz (fun d hd => nz_e hd) (RS_k hG C1 R')) h1
    obtain ⟨st2, l3⟩ := r_empty LB' a4 hg hG qs 101 0 rfl
    rw [q0] at l3
    have xf : mI X t 0 = nI G := (congrFun (aT 0 (by omega)) 0).trans TRr.1.1
    refine ⟨.inr (emV (fun j => sum5 (tidesA pg len np ng F G (nz (cutF 86 o' X1)) j (19 + 2 * g)) 5) 101 0), X2, emV (fun j => sum5 (tidesA pg len np ng F G (nz (cutF 86 o' X1)) j (19 + 2 * g)) 5) 101 0, bC 17 (m + 41) st2 X, ?_, ?_, .inl ⟨rfl, ?_⟩, STv_a S (AFr_b (by omega) AF), AF.1.2.2⟩
    · unfold f_X11_empty b_X11_empty_0
      rw [ck_t c1, bx_s (c_ckG_in c1 c2 c3 g2 hG hg), ck_t c1, bd_s x1]
      exact l2
    · unfold f_X14_empty b_X14_empty_0
      rw [ck_t (show mT X2 m = 13 by rw [← a1, hX]; rfl), lw_S, ← hX, bd_s ((m_isG a1 a2 a5 xf hG).1 hx), if_neg (show ¬ (1 : Int32) = 0 by decide), ck_t a1, dr_s a4, ck_t LB'.1.1, a3, bd_s b1]
      exact l3
    · rw [bC_Io (by omega), hX, wI_e]
  · refine ⟨.inl 2, M, 0, wI (wI M m 0 0) m 0 1, ?_, ?_, .inr (.inl ⟨rfl, wI_e _ _ _ _⟩), STv_0 (STv_0 S), rfl⟩
    · unfold f_X11_empty b_X11_empty_0
      rw [ck_t c1, bx_t (c_ckG_out c1 c2 c3 g2 hG hx)]
    · unfold f_X14_empty b_X14_empty_0
      rw [ck_t t13, lw_S, bd_s ((m_isG e1 e2 e4 x0 hG).2 hx), if_pos rfl, ck_t e1, bd_s (m_no e1)]
