/-! ## Pure: one event more: members, what is spared -/
theorem S_63 {Z g ps vs : Nat → Nat} {K r p o : Nat} {M0 : gMem} (W : CWd Z g ps vs K r p o M0) {ro : Nat → Nat} {m t : Nat} {D0 D : gMem} (W2 : P2W g vs ro K m t D0) (DD : M2I m t D0 D) {L1 L2 L3 : List Nat} {E : List (Nat × Nat)} {nO k : Nat} {q : Nat × Nat × Nat × Nat} {C : gMem} (CC : CI r o M0 C) (R : RA Z vs r o m t L1 L2 L3 E nO k q C D) {i : Nat} (hi : i ≤ K) (hk : k ≤ i) (hv : vs i < 2 ^ 62) (hr : ro i = 13) (h1 : tdS ro vs 1 (vs i) i 0 0 = lkL vs (vs i) L1 0) (hb : q.2.2.2 = 2) : OUT Z vs ps r o m t i L1 L2 L3 E nO (i + 1) (q.1, q.2.1, q.2.2.1, 3) D0 (stp2 Z r p o (63, i) C) D := by
  have ht := W2.1.1.2.2; obtain ⟨hp, ho⟩ := W_ho W; have CX := CI_at (k := i) ho CC; have x7 : mI (at' r i C) r 7 = 0 := (wI_o (.inr (by decide))).trans R.1
  obtain ⟨h7, RG1, RF1, RO1, ⟨⟨a1, a2, a3, a4, a5⟩, b, c⟩, RV1⟩ := R
  have hg := g_40 W2 hi (.inr (.inr (.inr (by omega))))
  have N := NL_fr (C' := at' r i C) RG1.1.1 (wI_o (.inl (by omega))) (fun _ => rfl)
  obtain ⟨n, hn⟩ : ∃ n, L3.length = n + 1 := ⟨L3.length - 1, by have := a5 (by omega); omega⟩
  have n6 : n < 6 := by omega
  have a3' := a3
  rw [hn] at a3'
  have el : lsn (at' r i C) o 5 = n := by
    unfold lsn
    rw [show cn (at' r i C) o 5 = L3.length from cn_e ((wI_o (.inl (by omega))).trans a2) (by omega)]
    omega
  have es : stp2 Z r p o (63, i) C = wI (wI (kwM r p (r + 1) i (at' r i C)) (o + (74 + 2 * lsn (at' r i C) o 5)) 0 (mI (kwM r p (r + 1) i (at' r i C)) r 8)) (o + (74 + 2 * lsn (at' r i C) o 5)) 1 (mI (at' r i C) (o + 5) 0) := rfl
  have E1 := E_13 W2 DD hi hr a3' n6
  have DM : ∀ v, M2I m t D0 (wI (wI D (m + 6) i v) (t + 8) n v) := fun v => M2_w ht (M2_w ht DD (.inr (.inl rfl))) (.inr (.inr (.inl (by omega))))
  rw [h1] at E1
  rw [es, el]
  generalize mI (at' r i C) (o + 5) 0 = w
  cases hl : lkL vs (vs i) L1 0 with
  | none =>
    rw [hl, if_pos rfl] at E1
    exact .inl ⟨3, _, by decide, by decide, E1, DM _, ER_k (by decide) (by decide) (kw_n W CX hi N hg hv hl x7) (kp_t (kp_w (.inl (by omega))) (kp_w (.inl (by omega))))⟩
  | some j =>
    rw [hl, if_neg (by intro z; cases z), show tdV (some j) = nI j from rfl] at E1
    have hj := (lkL_lt hl).2
    refine .inr ⟨_, E1, DM _, ?_⟩
    rw [kw_f W CX hi N hg hv hl, wI_e]
    generalize hX : at' r i C = X at *; have ex : ∀ a k, (a ≠ r ∨ k ≠ 6) → mI X a k = mI C a k := (fun a k h => by rw [← hX]; exact wI_o h); have exJ : mJ X = mJ C := (by rw [← hX]; rfl); have exR : mR X = mR C := (by rw [← hX]; rfl)
    have ag : ∀ a k, (a ≠ r ∨ (k ≠ 6 ∧ k ≠ 8)) → (a ≠ o + (74 + 2 * n) ∨ (k ≠ 0 ∧ k ≠ 1)) → mI (wI (wI (wI X r 8 (nI j)) (o + (74 + 2 * n)) 0 (nI j)) (o + (74 + 2 * n)) 1 w) a k = mI C a k := fun a k h1 h2 => by rw [wI_o (by omega), wI_o (by omega), wI_o (by omega), ex a k (by omega)]
    have ad : ∀ a k, (a ≠ m + 6 ∨ k ≠ i) → (a ≠ t + 8 ∨ k ≠ n) → mI (wI (wI D (m + 6) i (nI j)) (t + 8) n (nI j)) a k = mI D a k := fun a k h h2 => by rw [wI_o h2, wI_o h]
    refine ⟨(ag r 7 (.inr (by decide)) (.inl (by omega))).trans h7, ?_, ?_, ?_, ?_, ?_⟩
    · exact RG_fr RG1 (fun a k h => ag a k (by omega) (by omega)) (fun j => by show mJ X _ j = _; rw [exJ]) (fun a k h => ad a k (by omega) (by omega))
    · exact RF_fr RF1 (fun a k h => ag a k (by omega) (by omega)) (fun j => by show mJ X _ j = _; rw [exJ]) (fun a k h => ad a k (by omega) (by omega))
    · exact RO_fr RO1 (Nat.le_refl _) (Nat.le_refl _) (fun a k h => ag a k (by omega) (by omega)) (fun a k h => ad a k (by omega) (by omega))
    · refine ⟨⟨NL_fr a1 (ag _ _ (by omega) (by omega)) (fun j => by show mJ X _ j = _; rw [exJ]), (ag _ _ (by omega) (by omega)).trans a2, (ad _ _ (by omega) (by omega)).trans a3, a4, fun _ => by omega⟩, fun q' hq => ?_, fun q' hq => ?_⟩
      · obtain ⟨b1, b2, b3, ⟨n', n1, n2, n3, n4, n5, n6⟩, b5⟩ := b q' hq
        refine ⟨?_, ?_, fun k k1 k2 => by rw [ag _ _ (by omega) (by omega)]; exact b3 k k1 k2, ⟨n', n1, .inl (by omega), by rw [ag _ _ (by omega) (by omega)]; exact n3, by rw [ad _ _ (by omega) (by omega)]; exact n4, fun k hk => by rw [ad _ _ (by omega) (by omega)]; exact n5 k hk, fun j k hj hk => by rw [ad _ _ (by omega) (by omega), ad _ _ (by omega) (by omega)]; exact n6 j k hj hk⟩, fun k hk => by rw [ag _ _ (by omega) (by omega), ad _ _ (by omega) (by omega)]; exact b5 k hk⟩
        · by_cases z : q' = n
          · rw [z, wI_o (.inr (by decide)), wI_e, wI_e]
          · rw [ag _ _ (by omega) (by omega), ad _ _ (by omega) (by omega)]; exact b1
        · by_cases z : q' = n
          · rw [z, wI_e]
            exact .inr ⟨⟨j, by omega, rfl⟩, .inr (Nat.le_refl 3)⟩
          · rw [ad _ _ (by omega) (by omega)]
            rcases b2 with h | ⟨h, -⟩
            · exact .inl h
            · exact .inr ⟨h, .inr (Nat.le_refl 3)⟩
      · rw [ad _ _ (by omega) (by omega)]
        exact ⟨(c q' hq).1, fun k hk => by rw [ad _ _ (by omega) (by omega)]; exact (c q' hq).2 k hk⟩
    · exact RV_fr RV1 (Nat.le_refl _) (Nat.le_refl _) (by omega) (fun a k h => ag a k (by omega) (by omega)) (fun j => by show mR X _ j = _; rw [exR]) (fun j hj => ad _ _ (by omega) (by omega))
theorem S_62 {Z g ps vs : Nat → Nat} {K r p o : Nat} {M0 : gMem} (W : CWd Z g ps vs K r p o M0) {ro : Nat → Nat} {m t : Nat} {D0 D : gMem} (W2 : P2W g vs ro K m t D0) (DD : M2I m t D0 D) {L1 L2 L3 : List Nat} {E : List (Nat × Nat)} {nO k : Nat} {q : Nat × Nat × Nat × Nat} {C : gMem} (CC : CI r o M0 C) (R : RA Z vs r o m t L1 L2 L3 E nO k q C D) {i : Nat} (hi : i ≤ K) (hk : k ≤ i) (hv : vs i < 2 ^ 62) (hr : ro i = 12) (h1 : tdS ro vs 2 (vs i) i 0 0 = lkL vs (vs i) L2 0) (hb : q.2.2.2 = 1 ∨ q.2.2.2 = 2) : OUT Z vs ps r o m t i L1 L2 L3 E nO (i + 1) (q.1, q.2.1, q.2.2.1, 2) D0 (stp2 Z r p o (62, i) C) D := by
  have ht := W2.1.1.2.2; obtain ⟨hp, ho⟩ := W_ho W; have CX := CI_at (k := i) ho CC; have x7 : mI (at' r i C) r 7 = 0 := (wI_o (.inr (by decide))).trans R.1
  obtain ⟨h7, RG1, RF1, RO1, ⟨⟨a1, a2, a3, a4, a5⟩, b, c⟩, RV1⟩ := R
  have hg := g_40 W2 hi (.inr (.inr (.inr (by omega))))
  have N := NL_fr (C' := at' r i C) RF1.1.1 (wI_o (.inl (by omega))) (fun _ => rfl)
  have hF8 : L2.length ≤ 8 := N.2.1
  obtain ⟨n, hn⟩ : ∃ n, L3.length = n + 1 := ⟨L3.length - 1, by have := a5 (by omega); omega⟩
  have n6 : n < 6 := by omega
  have a3' := a3
  rw [hn] at a3'
  have el : lsn (at' r i C) o 5 = n := by
    unfold lsn
    rw [show cn (at' r i C) o 5 = L3.length from cn_e ((wI_o (.inl (by omega))).trans a2) (by omega)]
    omega
  obtain ⟨b1, b2, b3, ⟨c0, n1, n2, n3, n4, n5, nd⟩, b5⟩ := b n (by omega)
  have b2' : mI D (t + 8) n = -1 := by
    rcases b2 with h | ⟨-, h⟩
    · exact h
    · omega
  have xa : ∀ a k, (a ≠ r ∨ k ≠ 6) → mI (at' r i C) a k = mI C a k := fun a k h => wI_o h
  have ec : cn (at' r i C) (o + (74 + 2 * n)) 3 = c0 := cn_e ((xa _ _ (by omega)).trans n3) (by omega)
  have ef : fnd (at' r i C) (r + 3) (mJ (at' r i C) (p + 4) i) = tdV (lkL vs (vs i) L2 0) := by
    rw [X_J W CX hi (.inl hg), fnd_L N hv]
  have es : stp2 Z r p o (62, i) C = paM (o + (74 + 2 * lsn (at' r i C) o 5)) (mI (kwM r p (r + 3) i (cif (hsP (at' r i C) o (lsn (at' r i C) o 5) (fnd (at' r i C) (r + 3) (mJ (at' r i C) (p + 4) i))) (ntM r p 6 i (at' r i C)) (at' r i C))) r 8) (kwM r p (r + 3) i (cif (hsP (at' r i C) o (lsn (at' r i C) o 5) (fnd (at' r i C) (r + 3) (mJ (at' r i C) (p + 4) i))) (ntM r p 6 i (at' r i C)) (at' r i C))) := rfl
  have E1 := E_12 W2 DD hi hr
  rw [h1] at E1
  rw [es, el, ef]
  have hs : ∀ v, hsP (at' r i C) o n v ↔ ∃ k, k < c0 ∧ mI D (t + 10) (8 * n + k) = v := fun v => by
    unfold hsP hasN
    rw [ec]
    constructor
    · rintro ⟨k, k1, k2⟩
      exact ⟨k, k1, by rw [← b5 k (by omega), ← xa _ _ (.inl (by omega))]; exact k2⟩
    · rintro ⟨k, k1, k2⟩
      exact ⟨k, k1, by rw [xa _ _ (.inl (by omega)), b5 k (by omega)]; exact k2⟩
  have DM1 : ∀ v, M2I m t D0 (wI D (m + 6) i v) := fun v => M2_w ht DD (.inr (.inl rfl))
  cases hl : lkL vs (vs i) L2 0 with
  | none =>
    rw [hl, if_pos rfl] at E1
    have nh : ¬ hsP (at' r i C) o n (tdV none) := fun z => by
      obtain ⟨k, k1, k2⟩ := (hs _).mp z
      obtain ⟨f, f1, f2⟩ := n5 k k1
      rw [f2] at k2
      exact nI_nm1 (by omega) k2
    rw [cif_f nh]
    exact .inl ⟨3, _, by decide, by decide, E1, DM1 _, ER_k (by decide) (by decide) (kw_n W CX hi N hg hv hl x7) (kp_pa (by omega))⟩
  | some j =>
    rw [hl, if_neg (by intro z; cases z), show tdV (some j) = nI j from rfl] at E1
    rw [show tdV (some j) = nI j from rfl]
    have hj := (lkL_lt hl).2
    have ad1 : ∀ a k, (a ≠ m + 6 ∨ k ≠ i) → mI (wI D (m + 6) i (nI j)) a k = mI D a k := fun a k h => wI_o h
    have full : (∀ k, k < c0 → mI D (t + 10) (8 * n + k) ≠ nI j) → c0 < 8 := fun h => by
      have := pig L2.length (c0 + 1) (fun k => if k < c0 then (mI D (t + 10) (8 * n + k)).toNatClampNeg else j) (fun k hk => by
        show (if k < c0 then (mI D (t + 10) (8 * n + k)).toNatClampNeg else j) < L2.length
        by_cases z : k < c0
        · obtain ⟨f, f1, f2⟩ := n5 k z
          rw [if_pos z, f2, nI_clamp (by omega)]; exact f1
        · rw [if_neg z]; omega) (fun x k hx hk => by
        show (if x < c0 then (mI D (t + 10) (8 * n + x)).toNatClampNeg else j) ≠ (if k < c0 then (mI D (t + 10) (8 * n + k)).toNatClampNeg else j)
        obtain ⟨f, f1, f2⟩ := n5 x (by omega)
        rw [if_pos (by omega), f2, nI_clamp (by omega)]
        by_cases z : k < c0
        · obtain ⟨f', f1', f2'⟩ := n5 k z
          have := nd x k hx z
          rw [f2, f2'] at this
          rw [if_pos z, f2', nI_clamp (by omega)]
          intro y
          exact this (by rw [y])
        · rw [if_neg z]
          have := h x (by omega)
          rw [f2] at this
          intro y
          exact this (by rw [y]))
      omega
    have mem := M_member (v := nI j) W2 (DM1 (nI j)) (p := n) (n := c0) ((ad1 _ _ (by omega)).trans a3') n6 ((ad1 _ _ (by omega)).trans n4) n1 (fun z => Classical.byContradiction fun y => by
      have := full (fun k hk e => y ⟨k, hk, (ad1 _ _ (by omega)).trans e⟩)
      omega)
    rcases mem with ⟨⟨k, k1, k2⟩, me⟩ | ⟨mn, me⟩
    · rw [ad1 _ _ (by omega)] at k2
      rw [me] at E1
      rw [cif_t ((hs _).mpr ⟨k, k1, k2⟩)]
      exact .inl ⟨6, _, by decide, by decide, E1, DM1 _, ER_k (by decide) (by decide) (ER_k (by decide) (by decide) (ER_nt (e := 6) W CX hi x7) kp_k) (kp_pa (by omega))⟩
    · have mn' : ∀ k, k < c0 → mI D (t + 10) (8 * n + k) ≠ nI j := fun k hk e => mn k hk ((ad1 _ _ (by omega)).trans e)
      have c8 := full mn'
      rw [me] at E1
      rw [cif_f (fun z => by obtain ⟨k, k1, k2⟩ := (hs _).mp z; exact mn' k k1 k2), kw_f W CX hi N hg hv hl, wI_e]
      refine .inr ⟨_, E1, M2_w ht (M2_w ht (DM1 _) (.inr (.inr (.inl (by omega))))) (.inr (.inr (.inl (by omega)))), ?_⟩
      have ec2 : cn (wI (at' r i C) r 8 (nI j)) (o + (74 + 2 * n)) 3 = c0 := cn_e ((wI_o (.inl (by omega))).trans ((xa _ _ (by omega)).trans n3)) (by omega)
      unfold paM
      rw [ec2, if_pos c8, show o + (74 + 2 * n) + 1 = o + (75 + 2 * n) by omega]
      clear es ef hs ec2 ec
      generalize hX : at' r i C = X at *; have ex : ∀ a k, (a ≠ r ∨ k ≠ 6) → mI X a k = mI C a k := (fun a k h => by rw [← hX]; exact wI_o h); have exJ : mJ X = mJ C := (by rw [← hX]; rfl); have exR : mR X = mR C := (by rw [← hX]; rfl)
      have ag : ∀ a k, (a ≠ r ∨ (k ≠ 6 ∧ k ≠ 8)) → (a ≠ o + (75 + 2 * n) ∨ k ≠ c0) → (a ≠ o + (74 + 2 * n) ∨ k ≠ 3) → mI (wI (wI (wI X r 8 (nI j)) (o + (75 + 2 * n)) c0 (nI j)) (o + (74 + 2 * n)) 3 (nI (c0 + 1))) a k = mI C a k := fun a k h1 h2 h3 => by rw [wI_o h3, wI_o h2, wI_o (by omega), ex a k (by omega)]
      have ad : ∀ a k, (a ≠ m + 6 ∨ k ≠ i) → (a ≠ t + 10 ∨ k ≠ 8 * n + c0) → (a ≠ t + 9 ∨ k ≠ n) → mI (wI (wI (wI D (m + 6) i (nI j)) (t + 10) (8 * n + c0) (nI j)) (t + 9) n (nI (c0 + 1))) a k = mI D a k := fun a k h h2 h3 => by rw [wI_o h3, wI_o h2, wI_o h]
      refine ⟨(ag r 7 (.inr (by decide)) (.inl (by omega)) (.inl (by omega))).trans h7, ?_, ?_, ?_, ?_, ?_⟩
      · exact RG_fr RG1 (fun a k h => ag a k (by omega) (by omega) (by omega)) (fun j => by show mJ X _ j = _; rw [exJ]) (fun a k h => ad a k (by omega) (by omega) (by omega))
      · exact RF_fr RF1 (fun a k h => ag a k (by omega) (by omega) (by omega)) (fun j => by show mJ X _ j = _; rw [exJ]) (fun a k h => ad a k (by omega) (by omega) (by omega))
      · exact RO_fr RO1 (Nat.le_refl _) (Nat.le_refl _) (fun a k h => ag a k (by omega) (by omega) (by omega)) (fun a k h => ad a k (by omega) (by omega) (by omega))
      · refine ⟨⟨NL_fr a1 (ag _ _ (by omega) (by omega) (by omega)) (fun j => by show mJ X _ j = _; rw [exJ]), (ag _ _ (by omega) (by omega) (by omega)).trans a2, (ad _ _ (by omega) (by omega) (by omega)).trans a3, a4, fun _ => by omega⟩, fun q' hq => ?_, fun q' hq => ?_⟩
        · rw [ad (t + 8) q' (by omega) (by omega) (by omega), ag _ 0 (by omega) (by omega) (by omega)]
          by_cases z : q' = n
          · subst z
            have e10 : ∀ k, k < c0 → mI (wI (wI (wI D (m + 6) i (nI j)) (t + 10) (8 * q' + c0) (nI j)) (t + 9) q' (nI (c0 + 1))) (t + 10) (8 * q' + k) = mI D (t + 10) (8 * q' + k) := fun k hk => ad _ _ (by omega) (by omega) (by omega)
            have e10c : mI (wI (wI (wI D (m + 6) i (nI j)) (t + 10) (8 * q' + c0) (nI j)) (t + 9) q' (nI (c0 + 1))) (t + 10) (8 * q' + c0) = nI j := by rw [wI_o (.inl (by omega)), wI_e]
            refine ⟨b1, .inl b2', fun k k1 k2 => by rw [ag _ _ (by omega) (by omega) (by omega)]; exact b3 k k1 k2, ⟨c0 + 1, by omega, .inl (by omega), wI_e _ _ _ _, wI_e _ _ _ _, fun k hk => ?_, fun x k hx hk => ?_⟩, fun k hk => ?_⟩
            · by_cases y : k = c0
              · rw [y, e10c]; exact ⟨j, by omega, rfl⟩
              · rw [e10 k (by omega)]; exact n5 k (by omega)
            · rw [e10 x (by omega)]
              by_cases y : k = c0
              · rw [y, e10c]; exact mn' x (by omega)
              · rw [e10 k (by omega)]; exact nd x k hx (by omega)
            · by_cases y : k = c0
              · rw [y, e10c, wI_o (.inl (by omega)), wI_e]
              · rw [ag _ _ (by omega) (by omega) (by omega), ad _ _ (by omega) (by omega) (by omega)]; exact b5 k hk
          · obtain ⟨b1, b2, b3, ⟨n', n1, n2, n3, n4, n5, nd⟩, b5⟩ := b q' hq
            refine ⟨b1, ?_, fun k k1 k2 => by rw [ag _ _ (by omega) (by omega) (by omega)]; exact b3 k k1 k2, ⟨n', n1, .inl (by omega), by rw [ag _ _ (by omega) (by omega) (by omega)]; exact n3, by rw [ad _ _ (by omega) (by omega) (by omega)]; exact n4, fun k hk => by rw [ad _ _ (by omega) (by omega) (by omega)]; exact n5 k hk, fun x k hx hk => by rw [ad _ _ (by omega) (by omega) (by omega), ad _ _ (by omega) (by omega) (by omega)]; exact nd x k hx hk⟩, fun k hk => by rw [ag _ _ (by omega) (by omega) (by omega), ad _ _ (by omega) (by omega) (by omega)]; exact b5 k hk⟩
            rcases b2 with h | ⟨h, -⟩
            · exact .inl h
            · exact .inr ⟨h, .inl (by omega)⟩
        · rw [ad _ _ (by omega) (by omega) (by omega)]
          exact ⟨(c q' hq).1, fun k hk => by rw [ad _ _ (by omega) (by omega) (by omega)]; exact (c q' hq).2 k hk⟩
      · exact RV_fr RV1 (Nat.le_refl _) (Nat.le_refl _) (by omega) (fun a k h => ag a k (by omega) (by omega) (by omega)) (fun j => by show mR X _ j = _; rw [exR]) (fun j hj => ad _ _ (by omega) (by omega) (by omega))
