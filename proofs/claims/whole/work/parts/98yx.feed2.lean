/-! ## Pure: feed on both sides -/
theorem T_feed {Z : Nat → Nat} {b m o o' t n kb : Nat} {T : Nat → Nat} {M : gMem} {x1 x2 x3 x4 x5 : Int32} (S : STv Z b m o o' t n kb T M) : ∃ r M1 v M2 n' T', f_X11_feed M b x1 x2 x3 x4 x5 = some (r, M1) ∧ f_X14_feed M1 m x1 x2 x3 x4 x5 = some (v, M2) ∧ AGR 0 9 r v (mI M2 m 0) ∧ STv Z b m o o' t n' kb T' M2 ∧ mN M1 = mN M ∧ mN M ≤ mN M2 ∧ mN M2 ≤ mN M + 1 := by
  have h := id S
  obtain ⟨s0, ⟨⟨t0, r0, r1, r2⟩, oo, TPM, -, cN⟩, ⟨P, -, -, ⟨v1, v2, v3, v4⟩⟩, -, -⟩ := h
  have hn := P.2.2.2.1
  have cn : mI M (b + 1) 0 = nI n := TPM.2.2.1
  have mn : mI M m 2 = nI n := P.2.2.1
  have t9 : mT M (b + 1) = 9 := TPM.1.1
  have t13 : mT M m = 13 := P.1.1
  have tr : mR M (b + 1) 1 = some (b + 1 + 1) := TPM.2.1.1
  have t22 : mT M (b + 1 + 1) = 22 := TPM.1.2.1
  have l22 : mL M (b + 1 + 1) = 2000 := TPM.1.2.2.1
  have e20 : mI M (b + 1) 0 + (20 : Int32) = nI (n + 20) := by rw [cn, show (20 : Int32) = nI 20 from rfl, nI_add]
  by_cases c : n + 20 ≤ 2000
  · have q1 : nI (n + 20) ≤ (2000 : Int32) := nI_le (b := 2000) c (by omega)
    obtain ⟨ws, hws⟩ : ∃ ws : Nat → Int32, ws = fun i => if i = 0 then x1 else if i = 1 then x2 else if i = 2 then x3 else if i = 3 then x4 else x5 := ⟨_, rfl⟩
    obtain ⟨T', hT'⟩ : ∃ T' : Nat → Nat, T' = fun q => if q < n then T q else byN (ws ((q - n) / 4)) (24 - 8 * ((q - n) % 4)) := ⟨_, rfl⟩
    have Tn : ∀ j, T' (n + j) = byN (ws (j / 4)) (24 - 8 * (j % 4)) := fun j => by
      rw [hT']
      show (if n + j < n then _ else byN (ws ((n + j - n) / 4)) (24 - 8 * ((n + j - n) % 4))) = _
      rw [if_neg (by omega), show n + j - n = j by omega]
    have T4 : ∀ i k, k < 4 → T' (n + 4 * i + k) = byN (ws i) (24 - 8 * k) := fun i k hk => by
      rw [Nat.add_assoc, Tn, show (4 * i + k) / 4 = i by omega, show (4 * i + k) % 4 = k by omega]
    have fc := fdC_f (p := b + 1) (n := n) (T := T') (M := M) cn
    have kT : ∀ j, mT (fdC (b + 1) n T' M j) = mT M := fun j => (fc j).1.1
    have kR : ∀ j, mR (fdC (b + 1) n T' M j) = mR M := fun j => (fc j).1.2.2.1
    have a0 := ap_all (j := 0) (w := x1) (T := T') t9 tr t22 l22 cn (by omega) (fun k hk => by have := T4 0 k hk; rw [hws] at this; exact this)
    have a1 := ap_all (j := 4) (w := x2) (T := T') t9 tr t22 l22 cn (by omega) (fun k hk => by have := T4 1 k hk; rw [hws] at this; exact this)
    have a2 := ap_all (j := 8) (w := x3) (T := T') t9 tr t22 l22 cn (by omega) (fun k hk => by have := T4 2 k hk; rw [hws] at this; exact this)
    have a3 := ap_all (j := 12) (w := x4) (T := T') t9 tr t22 l22 cn (by omega) (fun k hk => by have := T4 3 k hk; rw [hws] at this; exact this)
    have a4 := ap_all (j := 16) (w := x5) (T := T') t9 tr t22 l22 cn (by omega) (fun k hk => by have := T4 4 k hk; rw [hws] at this; exact this)
    have b10 : ∀ j, mT (fdC (b + 1) n T' M j) b = 10 := fun j => by rw [kT]; exact t0
    have b9 : ∀ j, mT (fdC (b + 1) n T' M j) (b + 1) = 9 := fun j => by rw [kT]; exact t9
    have br : ∀ j, mR (fdC (b + 1) n T' M j) b 0 = some (b + 1) := fun j => by rw [kR]; exact r0
    have ccl : f_X11_feed M b x1 x2 x3 x4 x5 = some (.inr (nI (n + 20)), fdC (b + 1) n T' M 20) := by
      unfold f_X11_feed b_X11_feed_0
      rw [ck_t t0, dr_s r0, ck_t t9, e20, if_pos q1, bd_s (show f_X10_append M (b + 1) x1 = some ((), fdC (b + 1) n T' M 4) from a0), ck_t (b10 4), dr_s (br 4), ck_t (b9 4), bd_s a1, ck_t (b10 (4 + 4)), dr_s (br (4 + 4)), ck_t (b9 (4 + 4)), bd_s (show f_X10_append (fdC (b + 1) n T' M (4 + 4)) (b + 1) x3 = _ from a2), ck_t (b10 (8 + 4)), dr_s (br (8 + 4)), ck_t (b9 (8 + 4)), bd_s (show f_X10_append (fdC (b + 1) n T' M (8 + 4)) (b + 1) x4 = _ from a3), ck_t (b10 (12 + 4)), dr_s (br (12 + 4)), ck_t (b9 (12 + 4)), bd_s (show f_X10_append (fdC (b + 1) n T' M (12 + 4)) (b + 1) x5 = _ from a4), ck_t (b10 (16 + 4)), dr_s (br (16 + 4)), ck_t (b9 (16 + 4)), (fc (16 + 4)).2.1]
    obtain ⟨C, hC⟩ : ∃ C, C = fdC (b + 1) n T' M 20 := ⟨_, rfl⟩
    have f20 := fc 20
    rw [← hC] at ccl f20
    obtain ⟨⟨g1, g2, g3, g4⟩, g5, g6, g7⟩ := f20
    obtain ⟨X, hX⟩ : ∃ X, X = wI C m 0 0 := ⟨_, rfl⟩
    obtain ⟨V, hV⟩ : ∃ V, V = aN X 5 ws 5 := ⟨_, rfl⟩
    have X1 : mT X = mT M := by rw [hX]; exact g1
    have X2 : mL X = mL M := by rw [hX]; exact g2
    have X3 : mR X = mR M := by rw [hX]; exact g3
    have X4 : mN X = mN M := by rw [hX]; exact g4
    have XI : ∀ a, a ≠ m → mI X a = mI C a := fun a h => by rw [hX]; funext k; exact wI_o (.inl h)
    have Xm : ∀ k, k ≠ 0 → mI X m k = mI M m k := fun k h => by rw [hX, wI_o (.inr h), g6 m (by omega) (by omega)]
    have Vo : ∀ a, a < mN M → mT V a = mT M a ∧ mL V a = mL M a ∧ mR V a = mR M a ∧ mI V a = mI X a := fun a h => by
      have z := aN_o (X := X) (len := 5) (vs := ws) 5 (a := a) (by omega)
      rw [← hV, X1, X2, X3] at z
      exact z
    have tN : ∀ j, mT (aN X 5 ws j) (mN X) = 20 := fun j => by rw [(aN_f j).1]; exact if_pos rfl
    have lN : ∀ j, mL (aN X 5 ws j) (mN X) = 5 := fun j => by rw [(aN_f j).2.1]; exact if_pos rfl
    have hm7 := P.1.2.1 1 (by omega) (by omega)
    have fm := fdM_f (m := m) (n := n) (T := T') (M := V)
    have lpv : lp_X14_feed_51 V m (some (mN X)) 0 = some (nI (n + 20), wI (fdM m n T' V 20) m 2 (nI (n + 20))) := by
      unfold lp_X14_feed_51
      refine lp_seq (f := fun (q : gMem × Int32) => bb_X14_feed_51 q.1 m (some (mN X)) q.2) (fun j => (fdM m n T' V j, nI j)) 0 20 (Nat.zero_le _) (fun j _ hj => ?_) ?_
      · exact fm_step (w := ws) (by rw [(Vo m (by omega)).1]; exact t13) (by rw [hV]; exact tN 5) (by rw [hV]; exact lN 5) (by rw [(Vo m (by omega)).2.2.1]; exact P.2.1.1) (by rw [(Vo (m + 1) (by omega)).1]; exact hm7) (by rw [(Vo (m + 1) (by omega)).2.1]; exact P.1.2.2.1) (by rw [(Vo m (by omega)).2.2.2, Xm 2 (by decide)]; exact mn) (by omega) (fun i hi => by rw [hV, aN_N rfl, if_pos hi]) hj c (Tn j)
      · show bb_X14_feed_51 (fdM m n T' V 20) m (some (mN X)) (nI 20) = _
        have m2 : mI (fdM m n T' V 20) m 2 + (20 : Int32) = nI (n + 20) := by rw [(fm 20).2.1 m (by omega), (Vo m (by omega)).2.2.2, Xm 2 (by decide), mn, show (20 : Int32) = nI 20 from rfl, nI_add]
        unfold bb_X14_feed_51
        rw [if_pos (show (20 : Int32) ≤ nI 20 by decide), (fm 20).1.1, ck_t (show mT V m = 13 by rw [(Vo m (by omega)).1]; exact t13), m2, lw_S, wI_e]
        rfl
    refine ⟨_, C, nI (n + 20), wI (fdM m n T' V 20) m 2 (nI (n + 20)), n + 20, T', ccl, ?_, .inl ⟨rfl, ?_⟩, ?_, g4, ?_, ?_⟩
    · unfold f_X14_feed b_X14_feed_0
      have z0 : nW X 20 ((5 : Int32)).toNatClampNeg = aN X 5 ws 0 := rfl
      rw [ck_t (show mT C m = 13 by rw [g1]; exact t13), lw_S, ← hX, Xm 2 (by decide), mn, if_pos (show nI n ≤ (1980 : Int32) from nI_le (b := 1980) (by omega) (by omega)), lw_S, z0]
      rw [ck_t (tN 0), lN 0, ck_t (show inb (0 : Int32) 5 by decide), ar_s (j := 0) (by decide) (by rw [hws]; rfl), lN 1, ck_t (show inb (1 : Int32) 5 by decide), ar_s (j := 1) (by decide) (by rw [hws]; rfl), lN 2, ck_t (show inb (2 : Int32) 5 by decide), ar_s (j := 2) (by decide) (by rw [hws]; rfl), lN 3, ck_t (show inb (3 : Int32) 5 by decide), ar_s (j := 3) (by decide) (by rw [hws]; rfl), lN 4, ck_t (show inb (4 : Int32) 5 by decide), ar_s (j := 4) (by decide) (by rw [hws]; rfl), ← hV]
      exact lpv
    · rw [wI_o (.inr (by decide)), (fm 20).2.1 m (by omega), (Vo m (by omega)).2.2.2, hX, wI_e]
    · have yN : mN (wI (fdM m n T' V 20) m 2 (nI (n + 20))) = mN M + 1 := by
        show mN (fdM m n T' V 20) = _
        rw [(fm 20).1.2.2.2, hV, (aN_f 5).2.2.2.1, X4]
      have yI : ∀ a, a < mN M → a ≠ m → a ≠ m + 1 → mI (wI (fdM m n T' V 20) m 2 (nI (n + 20))) a = mI C a := fun a h i1 i2 => by
        rw [← XI a i1, ← (Vo a h).2.2.2, ← (fm 20).2.1 a i2]
        funext k
        exact wI_o (.inl i1)
      refine STv_n S (fun a h => ⟨?_, ?_, ?_⟩) (fun a h i1 i2 i3 i4 => ?_) ?_ ⟨?_, wI_e _ _ _ _, by omega⟩ (fun q hq => ⟨?_, ?_, ?_⟩) (by omega)
      · show mT (fdM m n T' V 20) a = _
        rw [(fm 20).1.1]; exact (Vo a h).1
      · show mL (fdM m n T' V 20) a = _
        rw [(fm 20).1.2.1]; exact (Vo a h).2.1
      · show mR (fdM m n T' V 20) a = _
        rw [(fm 20).1.2.2.1]; exact (Vo a h).2.2.1
      · rw [yI a h i1 i4]; exact g6 a i2 i3
      · rw [wI_o (.inr (by decide)), (fm 20).2.1 m (by omega), (Vo m (by omega)).2.2.2, Xm 3 (by decide)]
      · rw [yI (b + 1) (by omega) (by omega) (by omega)]; exact g5
      · rw [yI (b + 2) (by omega) (by omega) (by omega), show b + 2 = b + 1 + 1 by omega, g7 q]
        by_cases k : n ≤ q ∧ q < n + 20
        · rw [if_pos k]
        · rw [if_neg k, hT']
          show _ = sB (if q < n then T q else _)
          rw [if_pos (by omega)]
          exact (TPM.2.2.2.2 q (by omega)).1
      · rw [wI_o (.inl (by omega)), (fm 20).2.2 q]
        by_cases k : n ≤ q ∧ q < n + 20
        · rw [if_pos k]
        · rw [if_neg k, hT', (Vo (m + 1) (by omega)).2.2.2, XI (m + 1) (by omega), g6 (m + 1) (by omega) (by omega)]
          show _ = nI (if q < n then T q else _)
          rw [if_pos (by omega)]
          exact (P.2.2.2.2 q (by omega)).1
      · rw [hT']
        show (if q < n then T q else _) < 256
        by_cases k : q < n
        · rw [if_pos k]; exact (P.2.2.2.2 q k).2
        · rw [if_neg k]; exact byN_lt _ _
    · show mN M ≤ mN (fdM m n T' V 20)
      rw [(fm 20).1.2.2.2, hV, (aN_f 5).2.2.2.1, X4]; omega
    · show mN (fdM m n T' V 20) ≤ _
      rw [(fm 20).1.2.2.2, hV, (aN_f 5).2.2.2.1, X4]; omega
  · have q1 : ¬ nI (n + 20) ≤ nI 2000 := fun z => by have := (nI_leI (by omega) (by omega)).mp z; omega
    have q2 : ¬ nI n ≤ nI 1980 := fun z => by have := (nI_leI (by omega) (by omega)).mp z; omega
    refine ⟨.inl 0, M, 0, wI (wI M m 0 0) m 0 1, n, T, ?_, ?_, .inr (.inl ⟨rfl, wI_e _ _ _ _⟩), STv_0 (STv_0 S), rfl, Nat.le_refl _, Nat.le_succ _⟩
    · unfold f_X11_feed b_X11_feed_0
      rw [ck_t t0, dr_s r0, ck_t t9, e20, if_neg (show ¬ nI (n + 20) ≤ (2000 : Int32) from q1)]
    · unfold f_X14_feed b_X14_feed_0
      rw [ck_t t13, lw_S, wI_o (.inr (by decide)), mn, if_neg (show ¬ nI n ≤ (1980 : Int32) from q2), bd_s (m_no (show mT (wI M m 0 0) m = 13 from t13))]
