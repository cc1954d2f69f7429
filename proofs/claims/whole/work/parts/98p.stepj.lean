/-! ## Pure: one event more: names that are known -/
theorem bd_id {y : Option (Int32 × gMem)} : (bd y fun r M => some (r, M)) = y := by
  match y with
  | none => rfl
  | some (r, M) => rfl
theorem E_12 {g vs ro : Nat → Nat} {K m t : Nat} {M0 : gMem} (W : P2W g vs ro K m t M0) {x : Nat} {M : gMem} (C : M2I m t M0 M) (hx : x ≤ K) (hr : ro x = 12) : f_X14_errorOf M m (nI x) = if tdS ro vs 2 (vs x) x 0 0 = none then some ((3 : Int32), wI M (m + 6) x (tdV (tdS ro vs 2 (vs x) x 0 0))) else f_X14_member (wI M (m + 6) x (tdV (tdS ro vs 2 (vs x) x 0 0))) m (tdV (tdS ro vs 2 (vs x) x 0 0)) := by
  obtain ⟨⟨⟨t0, -, r7, r12, -, -, t5, l5⟩, ⟨u0, ur, ut⟩, ht⟩, r8, t6, l6⟩ := M2_B W.1 C
  have hK := W.2.2.1
  have q : inb (nI x) 401 := (inbN (by omega)).mpr (by omega)
  have hcl : (nI x).toNatClampNeg = x := nI_clamp (by omega)
  have hro : mI M (m + 5) (nI x).toNatClampNeg = nI (ro x) := by rw [hcl]; exact P2_ro W C hx
  rw [hr] at hro
  unfold f_X14_errorOf b_X14_errorOf_0 b_X14_errorOf_484
  rw [ck_t t0, dr_s r12, ck_t u0, dr_s r7, ck_t t5, l5, ck_t q, hro, if_neg (by decide), if_neg (by decide), if_neg (by decide), if_neg (by decide), if_neg (by decide), if_neg (by decide), if_neg (by decide), if_neg (by decide), if_neg (by decide), if_neg (by decide), if_neg (by decide), if_pos (show nI 12 = (12 : Int32) from rfl), show f_X14_look M m (nI x) (2 : Int32) = _ from (M_look (w := 2) W C hx (g_40 W hx (by omega)) (by decide)).1, bd_S]
  generalize tdS ro vs 2 (vs x) x 0 0 = z
  cases z with
  | none => rw [if_pos (show (none : Option Nat) = none from rfl), if_pos (show (none : Option Nat) = none from rfl), if_neg (show ¬ (3 : Int32) = 0 by decide)]
  | some j =>
    generalize hv : tdV (some j) = v
    rw [if_neg (show ¬ (some j : Option Nat) = none from by intro z; cases z), if_neg (show ¬ (some j : Option Nat) = none from by intro z; cases z), if_pos rfl, ck_t (show mT (wI M (m + 6) x v) m = 13 from t0), show mR (wI M (m + 6) x v) m 8 = some (m + 6) from r8, dr_S, ck_t (show mT (wI M (m + 6) x v) (m + 6) = 20 from t6), show mL (wI M (m + 6) x v) (m + 6) = 401 from l6, ck_t q, hcl, wI_e, bd_id]
theorem pig : ∀ (F n : Nat) (f : Nat → Nat), (∀ k, k < n → f k < F) → (∀ j k, j < k → k < n → f j ≠ f k) → n ≤ F
  | 0, n, f, h1, _ => by
    by_cases c : n = 0
    · omega
    · have := h1 0 (by omega); omega
  | F + 1, n, f, h1, h2 => by
    by_cases c : ∃ k0, k0 < n ∧ f k0 = F
    · obtain ⟨k0, k1, k2⟩ := c
      have := pig F (n - 1) (fun k => f (if k < k0 then k else k + 1)) (fun k hk => by
        show f (if k < k0 then k else k + 1) < F
        by_cases z : k < k0
        · rw [if_pos z]
          have a := h1 k (by omega)
          have b := h2 k k0 z k1
          rw [k2] at b
          omega
        · rw [if_neg z]
          have a := h1 (k + 1) (by omega)
          have b := h2 k0 (k + 1) (by omega) (by omega)
          rw [k2] at b
          omega) (fun j k hj hk => by
        show f (if j < k0 then j else j + 1) ≠ f (if k < k0 then k else k + 1)
        by_cases z : k < k0
        · rw [if_pos z, if_pos (by omega)]; exact h2 j k hj (by omega)
        · rw [if_neg z]
          by_cases y : j < k0
          · rw [if_pos y]; exact h2 j (k + 1) (by omega) (by omega)
          · rw [if_neg y]; exact h2 (j + 1) (k + 1) (by omega) (by omega))
      omega
    · have := pig F n f (fun k hk => by
        have a := h1 k hk
        have b : f k ≠ F := fun z => c ⟨k, hk, z⟩
        omega) h2
      omega
theorem S_60 {Z g ps vs : Nat → Nat} {K r p o : Nat} {M0 : gMem} (W : CWd Z g ps vs K r p o M0) {ro : Nat → Nat} {m t : Nat} {D0 D : gMem} (W2 : P2W g vs ro K m t D0) (DD : M2I m t D0 D) {L1 L2 L3 : List Nat} {E : List (Nat × Nat)} {nO k : Nat} {q : Nat × Nat × Nat × Nat} {C : gMem} (CC : CI r o M0 C) (R : RA Z vs r o m t L1 L2 L3 E nO k q C D) {i : Nat} (hi : i ≤ K) (hk : k ≤ i) (hv : vs i < 2 ^ 62) (hr : ro i = 10) (h1 : tdS ro vs 2 (vs i) i 0 0 = lkL vs (vs i) L2 0) (hb : q.2.2.1 = 1) : OUT Z vs ps r o m t i L1 L2 L3 E nO (i + 1) (q.1, q.2.1, 2, q.2.2.2) D0 (stp2 Z r p o (60, i) C) D := by
  have ht := W2.1.1.2.2; obtain ⟨hp, ho⟩ := W_ho W; have CX := CI_at (k := i) ho CC; have x7 : mI (at' r i C) r 7 = 0 := (wI_o (.inr (by decide))).trans R.1
  obtain ⟨h7, RG1, RF1, ⟨⟨a1, a2, a3, a4⟩, b⟩, RP1, RV1⟩ := R
  have hg := g_40 W2 hi (.inr (.inr (.inr (by omega))))
  have N := NL_fr (C' := at' r i C) RF1.1.1 (wI_o (.inl (by omega))) (fun _ => rfl)
  obtain ⟨n, hn⟩ : ∃ n, nO = n + 1 := ⟨nO - 1, by have := a4.mp (by omega); omega⟩
  subst hn
  have el : lsn (at' r i C) o 4 = n := by
    unfold lsn
    rw [show cn (at' r i C) o 4 = n + 1 from cn_e ((wI_o (.inl (by omega))).trans a1) (by omega)]
    omega
  have es : stp2 Z r p o (60, i) C = wI (kwM r p (r + 3) i (at' r i C)) (o + (50 + lsn (at' r i C) o 4)) 0 (mI (kwM r p (r + 3) i (at' r i C)) r 8) := rfl
  have E1 := E_10 W2 DD hi hr a2 (by omega)
  have DM : ∀ v, M2I m t D0 (wI (wI D (m + 6) i v) (t + 6) n v) := fun v => M2_w ht (M2_w ht DD (.inr (.inl rfl))) (.inr (.inr (.inl (by omega))))
  rw [h1] at E1
  rw [es, el]
  cases hl : lkL vs (vs i) L2 0 with
  | none =>
    rw [hl, if_pos rfl] at E1
    exact .inl ⟨3, _, by decide, by decide, E1, DM _, ER_k (by decide) (by decide) (kw_n W CX hi N hg hv hl x7) (kp_w (.inl (by omega)))⟩
  | some j =>
    rw [hl, if_neg (by intro z; cases z), show tdV (some j) = nI j from rfl] at E1
    have hj := (lkL_lt hl).2
    refine .inr ⟨_, E1, DM _, ?_⟩
    rw [kw_f W CX hi N hg hv hl, wI_e]
    generalize hX : at' r i C = X at *; have ex : ∀ a k, (a ≠ r ∨ k ≠ 6) → mI X a k = mI C a k := (fun a k h => by rw [← hX]; exact wI_o h); have exJ : mJ X = mJ C := (by rw [← hX]; rfl); have exR : mR X = mR C := (by rw [← hX]; rfl)
    have ag : ∀ a k, (a ≠ r ∨ (k ≠ 6 ∧ k ≠ 8)) → (a ≠ o + (50 + n) ∨ k ≠ 0) → mI (wI (wI X r 8 (nI j)) (o + (50 + n)) 0 (nI j)) a k = mI C a k := fun a k h1 h2 => by rw [wI_o h2, wI_o (by omega), ex a k (by omega)]
    have ad : ∀ a k, (a ≠ m + 6 ∨ k ≠ i) → (a ≠ t + 6 ∨ k ≠ n) → mI (wI (wI D (m + 6) i (nI j)) (t + 6) n (nI j)) a k = mI D a k := fun a k h h2 => by rw [wI_o h2, wI_o h]
    refine ⟨(ag r 7 (.inr (by decide)) (.inl (by omega))).trans h7, ?_, ?_, ?_, ?_, ?_⟩
    · exact RG_fr RG1 (fun a k h => ag a k (by omega) (by omega)) (fun j => by show mJ X _ j = _; rw [exJ]) (fun a k h => ad a k (by omega) (by omega))
    · exact RF_fr RF1 (fun a k h => ag a k (by omega) (by omega)) (fun j => by show mJ X _ j = _; rw [exJ]) (fun a k h => ad a k (by omega) (by omega))
    · refine ⟨⟨(ag _ _ (by omega) (by omega)).trans a1, (ad _ _ (by omega) (by omega)).trans a2, a3, ⟨fun _ => by omega, fun _ => (by show 1 ≤ 2; decide)⟩⟩, fun i' hi' => ⟨fun _ => ?_, fun z => ?_⟩⟩
      · by_cases z : i' = n
        · rw [z, wI_e]
          show _ = mI (wI (wI D (m + 6) i (nI j)) (t + 6) n (nI j)) (t + 6) n ∧ ∃ f, f < L2.length ∧ mI (wI (wI D (m + 6) i (nI j)) (t + 6) n (nI j)) (t + 6) n = nI f
          rw [wI_e]
          exact ⟨rfl, j, by omega, rfl⟩
        · rw [ag _ _ (by omega) (by omega), ad _ _ (by omega) (by omega)]
          exact (b i' hi').1 (.inl (by omega))
      · have z1 : i' + 1 < n + 1 := z.resolve_right (by show ¬ 3 ≤ 2; decide)
        rw [ag _ _ (by omega) (by omega), ad _ _ (by omega) (by omega)]
        exact (b i' hi').2 (.inl z1)
    · exact RP_fr RP1 (Nat.le_refl _) (Nat.le_refl _) (fun a k h => ag a k (by omega) (by omega)) (fun j => by show mJ X _ j = _; rw [exJ]) (fun a k h => ad a k (by omega) (by omega))
    · exact RV_fr RV1 (Nat.le_refl _) (Nat.le_refl _) (by omega) (fun a k h => ag a k (by omega) (by omega)) (fun j => by show mR X _ j = _; rw [exR]) (fun j hj => ad _ _ (by omega) (by omega))
theorem S_61 {Z g ps vs : Nat → Nat} {K r p o : Nat} {M0 : gMem} (W : CWd Z g ps vs K r p o M0) {ro : Nat → Nat} {m t : Nat} {D0 D : gMem} (W2 : P2W g vs ro K m t D0) (DD : M2I m t D0 D) {L1 L2 L3 : List Nat} {E : List (Nat × Nat)} {nO k : Nat} {q : Nat × Nat × Nat × Nat} {C : gMem} (CC : CI r o M0 C) (R : RA Z vs r o m t L1 L2 L3 E nO k q C D) {i : Nat} (hi : i ≤ K) (hk : k ≤ i) (hv : vs i < 2 ^ 62) (hr : ro i = 11) (h1 : tdS ro vs 1 (vs i) i 0 0 = lkL vs (vs i) L1 0) (hb : q.2.2.1 = 2) : OUT Z vs ps r o m t i L1 L2 L3 E nO (i + 1) (q.1, q.2.1, 3, q.2.2.2) D0 (stp2 Z r p o (61, i) C) D := by
  have ht := W2.1.1.2.2; obtain ⟨hp, ho⟩ := W_ho W; have CX := CI_at (k := i) ho CC; have x7 : mI (at' r i C) r 7 = 0 := (wI_o (.inr (by decide))).trans R.1
  obtain ⟨h7, RG1, RF1, ⟨⟨a1, a2, a3, a4⟩, b⟩, RP1, RV1⟩ := R
  have hg := g_40 W2 hi (.inr (.inr (.inr (by omega))))
  have N := NL_fr (C' := at' r i C) RG1.1.1 (wI_o (.inl (by omega))) (fun _ => rfl)
  obtain ⟨n, hn⟩ : ∃ n, nO = n + 1 := ⟨nO - 1, by have := a4.mp (by omega); omega⟩
  subst hn
  have el : lsn (at' r i C) o 4 = n := by
    unfold lsn
    rw [show cn (at' r i C) o 4 = n + 1 from cn_e ((wI_o (.inl (by omega))).trans a1) (by omega)]
    omega
  have es : stp2 Z r p o (61, i) C = wI (wI (kwM r p (r + 1) i (at' r i C)) (o + (50 + lsn (at' r i C) o 4)) 1 (mI (kwM r p (r + 1) i (at' r i C)) r 8)) (o + (50 + lsn (at' r i C) o 4)) 2 (mI (at' r i C) (o + 5) 0) := rfl
  have E1 := E_11 W2 DD hi hr a2 (by omega)
  have DM : ∀ v, M2I m t D0 (wI (wI D (m + 6) i v) (t + 7) n v) := fun v => M2_w ht (M2_w ht DD (.inr (.inl rfl))) (.inr (.inr (.inl (by omega))))
  rw [h1] at E1
  rw [es, el]
  generalize mI (at' r i C) (o + 5) 0 = w
  cases hl : lkL vs (vs i) L1 0 with
  | none =>
    rw [hl, if_pos rfl] at E1
    exact .inl ⟨3, _, by decide, by decide, E1, DM _, ER_k (by decide) (by decide) (kw_n W CX hi N hg hv hl x7) (kp_t (kp_w (.inl (by omega))) (kp_w (.inl (by omega))))⟩
  | some j =>
    rw [hl, if_neg (by intro z; cases z), show tdV (some j) = nI j from rfl] at E1
    have hj := (lkL_lt hl).2
    refine .inr ⟨_, E1, DM _, ?_⟩
    rw [kw_f W CX hi N hg hv hl, wI_e]
    generalize hX : at' r i C = X at *; have ex : ∀ a k, (a ≠ r ∨ k ≠ 6) → mI X a k = mI C a k := (fun a k h => by rw [← hX]; exact wI_o h); have exJ : mJ X = mJ C := (by rw [← hX]; rfl); have exR : mR X = mR C := (by rw [← hX]; rfl)
    have ag : ∀ a k, (a ≠ r ∨ (k ≠ 6 ∧ k ≠ 8)) → (a ≠ o + (50 + n) ∨ (k ≠ 1 ∧ k ≠ 2)) → mI (wI (wI (wI X r 8 (nI j)) (o + (50 + n)) 1 (nI j)) (o + (50 + n)) 2 w) a k = mI C a k := fun a k h1 h2 => by rw [wI_o (by omega), wI_o (by omega), wI_o (by omega), ex a k (by omega)]
    have ad : ∀ a k, (a ≠ m + 6 ∨ k ≠ i) → (a ≠ t + 7 ∨ k ≠ n) → mI (wI (wI D (m + 6) i (nI j)) (t + 7) n (nI j)) a k = mI D a k := fun a k h h2 => by rw [wI_o h2, wI_o h]
    refine ⟨(ag r 7 (.inr (by decide)) (.inl (by omega))).trans h7, ?_, ?_, ?_, ?_, ?_⟩
    · exact RG_fr RG1 (fun a k h => ag a k (by omega) (by omega)) (fun j => by show mJ X _ j = _; rw [exJ]) (fun a k h => ad a k (by omega) (by omega))
    · exact RF_fr RF1 (fun a k h => ag a k (by omega) (by omega)) (fun j => by show mJ X _ j = _; rw [exJ]) (fun a k h => ad a k (by omega) (by omega))
    · refine ⟨⟨(ag _ _ (by omega) (by omega)).trans a1, (ad _ _ (by omega) (by omega)).trans a2, a3, ⟨fun _ => by omega, fun _ => (by show 1 ≤ 3; decide)⟩⟩, fun i' hi' => ⟨fun _ => ?_, fun _ => ?_⟩⟩
      · rw [ag _ _ (by omega) (by omega), ad _ _ (by omega) (by omega)]
        exact (b i' hi').1 (.inr (by omega))
      · by_cases z : i' = n
        · rw [z, wI_o (.inr (by decide)), wI_e]
          show _ = mI (wI (wI D (m + 6) i (nI j)) (t + 7) n (nI j)) (t + 7) n ∧ ∃ f, f < L1.length ∧ mI (wI (wI D (m + 6) i (nI j)) (t + 7) n (nI j)) (t + 7) n = nI f
          rw [wI_e]
          exact ⟨rfl, j, by omega, rfl⟩
        · rw [ag _ _ (by omega) (by omega), ad _ _ (by omega) (by omega)]
          exact (b i' hi').2 (.inl (by omega))
    · exact RP_fr RP1 (Nat.le_refl _) (Nat.le_refl _) (fun a k h => ag a k (by omega) (by omega)) (fun j => by show mJ X _ j = _; rw [exJ]) (fun a k h => ad a k (by omega) (by omega))
    · exact RV_fr RV1 (Nat.le_refl _) (Nat.le_refl _) (by omega) (fun a k h => ag a k (by omega) (by omega)) (fun j => by show mR X _ j = _; rw [exR]) (fun j hj => ad _ _ (by omega) (by omega))
