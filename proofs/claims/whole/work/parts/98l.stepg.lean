/-! ## Pure: one event more: grounds and fishers -/
def RA (Z vs : Nat → Nat) (r o m t : Nat) (L1 L2 L3 : List Nat) (E : List (Nat × Nat)) (nO k : Nat) (q : Nat × Nat × Nat × Nat) (C D : gMem) : Prop :=
  mI C r 7 = 0 ∧ RG vs r o t L1 q.1 C D ∧ RF vs r o t L2 q.2.1 C D ∧ RO o t L2.length L1.length nO q.2.2.1 C D ∧ RP vs r o t L2.length L1.length L3 q.2.2.2 C D ∧ RV Z vs o m L2.length L1.length E k C D
/-- what comes of an event: the same error, or the relation -/
def OUT (Z vs ps : Nat → Nat) (r o m t i : Nat) (L1 L2 L3 : List Nat) (E : List (Nat × Nat)) (nO k : Nat) (q : Nat × Nat × Nat × Nat) (D0 C1 D : gMem) : Prop :=
  (∃ e D1, e ≠ 0 ∧ e < 16 ∧ f_X14_errorOf D m (nI i) = some (nI e, D1) ∧ M2I m t D0 D1 ∧ ER r e i ps C1) ∨ ∃ D1, f_X14_errorOf D m (nI i) = some ((0 : Int32), D1) ∧ M2I m t D0 D1 ∧ RA Z vs r o m t L1 L2 L3 E nO k q C1 D1
theorem ER_k {r e i : Nat} {ps : Nat → Nat} {A B : gMem} (he : e ≠ 0) (he2 : e < 16) (h : ER r e i ps A) (k : kpE r A B) : ER r e i ps B := by
  have h0 : mI A r 7 ≠ 0 := by rw [h.1]; exact nI_ne (b := 0) he (by omega) (by omega)
  obtain ⟨a, b⟩ := k h0
  exact ⟨a.trans h.1, b.trans h.2⟩
theorem X_J {Z g ps vs : Nat → Nat} {K r p o : Nat} {M0 : gMem} (W : CWd Z g ps vs K r p o M0) {X : gMem} (CX : CI r o M0 X) {i : Nat} (hi : i ≤ K) (hg : g i = 40 ∨ g i = 41) : mJ X (p + 4) i = lN (vs i) := ((W_o W CX).2 i hi).2.2 hg
theorem X_ps {Z g ps vs : Nat → Nat} {K r p o : Nat} {M0 : gMem} (W : CWd Z g ps vs K r p o M0) {X : gMem} (CX : CI r o M0 X) {i : Nat} (hi : i ≤ K) : mI X (p + 3) i = nI (ps i) := ((W_o W CX).2 i hi).2.1
theorem ER_nt {Z g ps vs : Nat → Nat} {K r p o : Nat} {M0 : gMem} (W : CWd Z g ps vs K r p o M0) {X : gMem} (CX : CI r o M0 X) {i : Nat} (hi : i ≤ K) {e : Nat} (h7 : mI X r 7 = 0) : ER r e i ps (ntM r p (nI e) i X) := by
  have ho := W_ho W
  rw [nt_0 h7]
  exact ⟨(wI_o (.inr (by decide))).trans (wI_e _ _ _ _), by rw [wI_e]; exact X_ps W CX hi⟩
theorem kw_f {Z g ps vs : Nat → Nat} {K r p o : Nat} {M0 : gMem} (W : CWd Z g ps vs K r p o M0) {X : gMem} (CX : CI r o M0 X) {i : Nat} (hi : i ≤ K) {x j : Nat} {L : List Nat} (N : NL vs x L X) (hg : g i = 40) (hv : vs i < 2 ^ 62) (h : lkL vs (vs i) L 0 = some j) : kwM r p x i X = wI X r 8 (nI j) := by
  have hj := lkL_lt h
  have h8 := N.2.1
  unfold kwM
  rw [X_J W CX hi (.inl hg), fnd_L N hv, h]
  exact if_pos (nI_le (a := 0) (by omega) (by omega))
theorem kw_n {Z g ps vs : Nat → Nat} {K r p o : Nat} {M0 : gMem} (W : CWd Z g ps vs K r p o M0) {X : gMem} (CX : CI r o M0 X) {i : Nat} (hi : i ≤ K) {x : Nat} {L : List Nat} (N : NL vs x L X) (hg : g i = 40) (hv : vs i < 2 ^ 62) (h : lkL vs (vs i) L 0 = none) (h7 : mI X r 7 = 0) : ER r 3 i ps (kwM r p x i X) := by
  have ho := W_ho W
  unfold kwM
  rw [X_J W CX hi (.inl hg), fnd_L N hv, h, if_neg (show ¬ (0 : Int32) ≤ tdV none from by decide)]
  exact ER_k (by decide) (by decide) (ER_nt (e := 3) W (CI_wI CX (.inr (.inr (by omega))) (by unfold hot isX; omega)) hi ((wI_o (.inr (by decide))).trans h7)) (kp_w (.inr (by decide)))
theorem nb_f {Z g ps vs : Nat → Nat} {K r p o : Nat} {M0 : gMem} (W : CWd Z g ps vs K r p o M0) {X : gMem} (CX : CI r o M0 X) {i : Nat} (hi : i ≤ K) {lo hh : Nat} (hg : g i = 41) (hv : vs i < 1000000) (hl : lo < 2 ^ 30) (hh2 : hh < 2 ^ 30) (h : lo ≤ vs i ∧ vs i ≤ hh) : nbM r p (nI lo) (nI hh) i X = wI X r 8 (nI (vs i)) := by
  unfold nbM
  rw [X_J W CX hi (.inr hg), lN_32]
  refine if_neg (fun z => ?_)
  rcases z with z | z
  · have := (nI_ltI (by omega) (by omega)).mp z; omega
  · have := (nI_ltI (by omega) (by omega)).mp z; omega
theorem nb_n {Z g ps vs : Nat → Nat} {K r p o : Nat} {M0 : gMem} (W : CWd Z g ps vs K r p o M0) {X : gMem} (CX : CI r o M0 X) {i : Nat} (hi : i ≤ K) {lo hh : Nat} (hg : g i = 41) (hv : vs i < 1000000) (hl : lo < 2 ^ 30) (hh2 : hh < 2 ^ 30) (h : ¬ (lo ≤ vs i ∧ vs i ≤ hh)) (h7 : mI X r 7 = 0) : ER r 5 i ps (nbM r p (nI lo) (nI hh) i X) := by
  have ho := W_ho W
  unfold nbM
  rw [X_J W CX hi (.inr hg), lN_32, if_pos (by
    by_cases c : vs i < lo
    · exact .inl (nI_lt c (by omega))
    · exact .inr (nI_lt (by omega) (by omega)))]
  exact ER_nt (e := 5) W (CI_wI CX (.inr (.inr (by omega))) (by unfold hot isX; omega)) hi ((wI_o (.inr (by decide))).trans h7)
theorem nw_f {Z g ps vs : Nat → Nat} {K r p o : Nat} {M0 : gMem} (W : CWd Z g ps vs K r p o M0) {X : gMem} (CX : CI r o M0 X) {i : Nat} (hi : i ≤ K) {x : Nat} {L : List Nat} (N : NL vs x L X) (hg : g i = 40) (hv : vs i < 2 ^ 62) (h : lkL vs (vs i) L 0 = none) (hc : L.length < cap r x) : nwM r p x i X = wI (wJ X (x + 1) L.length (lN (vs i))) x 1 (nI (L.length + 1)) := by
  have h8 := N.2.1
  have e1 : cn X x 1 = L.length := cn_e N.1 (by omega)
  unfold nwM
  rw [X_J W CX hi (.inl hg), fnd_L N hv, h, if_pos (show tdV none < (0 : Int32) from by decide), e1, if_pos hc]
theorem nw_c {Z g ps vs : Nat → Nat} {K r p o : Nat} {M0 : gMem} (W : CWd Z g ps vs K r p o M0) {X : gMem} (CX : CI r o M0 X) {i : Nat} (hi : i ≤ K) {x : Nat} {L : List Nat} (N : NL vs x L X) (hg : g i = 40) (hv : vs i < 2 ^ 62) (h : lkL vs (vs i) L 0 = none) (hc : ¬ L.length < cap r x) (h7 : mI X r 7 = 0) : ER r 4 i ps (nwM r p x i X) := by
  have h8 := N.2.1
  have e1 : cn X x 1 = L.length := cn_e N.1 (by omega)
  unfold nwM
  rw [X_J W CX hi (.inl hg), fnd_L N hv, h, if_pos (show tdV none < (0 : Int32) from by decide), e1, if_neg hc]
  exact ER_nt (e := 4) W CX hi h7
theorem nw_d {Z g ps vs : Nat → Nat} {K r p o : Nat} {M0 : gMem} (W : CWd Z g ps vs K r p o M0) {X : gMem} (CX : CI r o M0 X) {i : Nat} (hi : i ≤ K) {x j : Nat} {L : List Nat} (N : NL vs x L X) (hg : g i = 40) (hv : vs i < 2 ^ 62) (h : lkL vs (vs i) L 0 = some j) (h7 : mI X r 7 = 0) : ER r 2 i ps (nwM r p x i X) := by
  have hj := lkL_lt h
  have h8 := N.2.1
  unfold nwM
  rw [X_J W CX hi (.inl hg), fnd_L N hv, h, if_neg (show ¬ tdV (some j) < (0 : Int32) from nI_pos (by omega))]
  exact ER_nt (e := 2) W CX hi h7
/-- a name more -/
theorem NL_s {vs : Nat → Nat} {x i : Nat} {L : List Nat} {X Y : gMem} (N : NL vs x L X) (h8 : L.length < 8) (hv : vs i < 2 ^ 62) (h1 : mI Y x 1 = nI (L.length + 1)) (h2 : ∀ j, mJ Y (x + 1) j = if j = L.length then lN (vs i) else mJ X (x + 1) j) : NL vs x (L ++ [i]) Y := by
  have hl : (L ++ [i]).length = L.length + 1 := by rw [List.length_append]; rfl
  refine ⟨by rw [hl]; exact h1, by omega, fun j hj => ?_, fun y hy => ?_⟩
  · rw [h2]
    by_cases c : j = L.length
    · subst c
      rw [if_pos rfl, List.getElem_append_right (Nat.le_refl _)]
      simp
    · rw [if_neg c, List.getElem_append_left (show j < L.length by omega)]
      exact N.2.2.1 j (by omega)
  · rcases List.mem_append.mp hy with h | h
    · exact N.2.2.2 y h
    · rw [List.mem_singleton.mp h]; exact hv
theorem cp_r {S : Nat → Nat → Bool} {a b c k : Nat} {M : gMem} : mI (cpS S a b M) c k = if (c = a ∨ c = a + 1) ∧ S (c - a) k = true then mI M (b + (c - a)) k else mI M c k := rfl
theorem wJ_r {M : gMem} {a k b j : Nat} {v : Int64} : mJ (wJ M a k v) b j = if b = a ∧ j = k then v else mJ M b j := rfl
theorem S_51 {Z g ps vs : Nat → Nat} {K r p o : Nat} {M0 : gMem} (W : CWd Z g ps vs K r p o M0) {ro : Nat → Nat} {m t : Nat} {D0 D : gMem} (W2 : P2W g vs ro K m t D0) (DD : M2I m t D0 D) {L1 L2 L3 : List Nat} {E : List (Nat × Nat)} {nO k : Nat} {q : Nat × Nat × Nat × Nat} {C : gMem} (CC : CI r o M0 C) (R : RA Z vs r o m t L1 L2 L3 E nO k q C D) {i : Nat} (hi : i ≤ K) (hk : k ≤ i) (hv : vs i < 2 ^ 62) (hr : ro i = 1) (h1 : tdS ro vs 1 (vs i) i 0 0 = lkL vs (vs i) L1 0) : OUT Z vs ps r o m t i (L1 ++ [i]) L2 L3 E nO (i + 1) (1, q.2) D0 (stp2 Z r p o (51, i) C) D := by
  obtain ⟨h7, ⟨⟨a1, a2, a3, a4, a5⟩, b, c⟩, RF1, RO1, RP1, RV1⟩ := R
  have ht := W2.1.1.2.2
  obtain ⟨hp, ho⟩ := W_ho W
  have hg := g_40 W2 hi (.inl hr)
  have CX := CI_at (k := i) ho CC
  have x7 : mI (at' r i C) r 7 = 0 := (wI_o (.inr (by decide))).trans h7
  have N := NL_fr (C' := at' r i C) a1 (wI_o (.inl (by omega))) (fun _ => rfl)
  have es : stp2 Z r p o (51, i) C = ngM o (nwM r p (r + 1) i (at' r i C)) := rfl
  have E1 := E_1 W2 DD hi hr a3 a1.2.1
  have kp : ∀ Y, kpE r Y (ngM o Y) := fun Y => kp_t (kp_w (.inl (by omega))) (kp_cp (by omega))
  rw [h1] at E1
  rw [es]
  cases hl : lkL vs (vs i) L1 0 with
  | some j =>
    rw [hl, if_neg (by intro z; cases z)] at E1
    exact .inl ⟨2, D, by decide, by decide, E1, DD, ER_k (by decide) (by decide) (nw_d W CX hi N hg hv hl x7) (kp _)⟩
  | none =>
    rw [hl, if_pos rfl] at E1
    by_cases c8 : L1.length = 8
    · rw [if_pos c8] at E1
      exact .inl ⟨4, D, by decide, by decide, E1, DD, ER_k (by decide) (by decide) (nw_c W CX hi N hg hv hl (by unfold cap; rw [if_neg (by omega)]; omega) x7) (kp _)⟩
    · rw [if_neg c8] at E1
      have n8 : L1.length < 8 := by have := a1.2.1; omega
      have hlen : (L1 ++ [i]).length = L1.length + 1 := by rw [List.length_append]; rfl
      refine .inr ⟨_, E1, M2_w ht (M2_w ht DD (.inr (.inr (.inr (by omega))))) (.inr (.inr (.inr (by omega)))), ?_⟩
      rw [nw_f W CX hi N hg hv hl (by unfold cap; rw [if_neg (by omega)]; omega)]
      have FR := W_fr W CX
      obtain ⟨F1, F2, -⟩ := FR
      generalize hX : at' r i C = X at *
      have ex : ∀ a k, (a ≠ r ∨ k ≠ 6) → mI X a k = mI C a k := fun a k h => by rw [← hX]; exact wI_o h
      have exJ : mJ X = mJ C := by rw [← hX]; rfl
      have exR : mR X = mR C := by rw [← hX]; rfl
      have e2 : cn (wI (wJ X (r + 1 + 1) L1.length (lN (vs i))) (r + 1) 1 (nI (L1.length + 1))) o 2 = L1.length := cn_e (by rw [wI_o (.inl (by omega))]; exact (ex o 2 (.inl (by omega))).trans a2) (by omega)
      unfold ngM
      rw [e2, show min L1.length 7 = L1.length by omega, show min (L1.length + 1) 8 = L1.length + 1 by omega]
      generalize hY : wI (wI (wJ X (r + 1 + 1) L1.length (lN (vs i))) (r + 1) 1 (nI (L1.length + 1))) o 2 (nI (L1.length + 1)) = Y
      have ey : ∀ a k, (a ≠ r + 1 ∨ k ≠ 1) → (a ≠ o ∨ k ≠ 2) → mI Y a k = mI X a k := fun a k h1 h2 => by
        rw [← hY, wI_o h2, wI_o h1]; rfl
      have ag : ∀ a k, (a ≠ r ∨ k ≠ 6) → (a ≠ r + 1 ∨ k ≠ 1) → (a ≠ o ∨ k ≠ 2) → a ≠ o + (18 + 2 * L1.length) → a ≠ o + (19 + 2 * L1.length) → mI (cpS sG (o + (18 + 2 * L1.length)) (o + 12) Y) a k = mI C a k := fun a k h1 h2 h3 h4 h5 => by
        rw [cp_r, if_neg (by omega), ey a k h2 h3, ex a k h1]
      have ad : ∀ a k, (a ≠ t ∨ (k ≠ 0 ∧ k ≠ 3)) → mI (wI (wI D t 0 (nI (L1.length + 1))) t 3 0) a k = mI D a k := fun a k h => by
        rw [wI_o (by omega), wI_o (by omega)]
      have agJ : ∀ a j, a ≠ r + 2 → mJ (cpS sG (o + (18 + 2 * L1.length)) (o + 12) Y) a j = mJ C a j := fun a j h => by
        show mJ Y a j = _
        rw [← hY, ← exJ]
        show mJ (wJ X (r + 1 + 1) L1.length (lN (vs i))) a j = _
        rw [wJ_r, if_neg (by omega)]
      refine ⟨(ag r 7 (.inr (by decide)) (.inl (by omega)) (.inl (by omega)) (by omega) (by omega)).trans h7, ?_, ?_, ?_, ?_, ?_⟩
      · refine ⟨⟨NL_s a1 n8 hv ?_ (fun j => ?_), ?_, ?_, (by show 1 ≤ 6; decide), fun _ => ⟨by omega, ?_⟩⟩, fun g' hg' => ?_, fun g' hg' => ?_⟩
        · rw [cp_r, if_neg (by omega), ← hY, wI_o (.inl (by omega)), wI_e]
        · show mJ Y (r + 1 + 1) j = _
          rw [← hY, ← exJ]
          show mJ (wJ X (r + 1 + 1) L1.length (lN (vs i))) (r + 1 + 1) j = _
          rw [wJ_r]
          by_cases z : j = L1.length
          · rw [if_pos z, if_pos ⟨rfl, z⟩]
          · rw [if_neg z, if_neg (fun y => z y.2)]
        · rw [cp_r, if_neg (by omega), ← hY, wI_e, hlen]
        · rw [wI_o (.inr (by decide)), wI_e, hlen]
        · rw [wI_e]; rfl
        · by_cases z : g' < L1.length
          · obtain ⟨b1, b2, b3, b4⟩ := b g' z
            rw [ag _ _ (by omega) (by omega) (by omega) (by omega) (by omega), ag _ _ (by omega) (by omega) (by omega) (by omega) (by omega), ag _ _ (by omega) (by omega) (by omega) (by omega) (by omega), ad _ _ (by omega)]
            refine ⟨b1, b2, b3, fun k hk => ?_⟩
            rw [ag _ _ (by omega) (by omega) (by omega) (by omega) (by omega), ad _ _ (by omega)]
            exact b4 k hk
          · have eg : g' = L1.length := by omega
            subst eg
            obtain ⟨c1, c2⟩ := c L1.length (Nat.le_refl _)
            have t0 : ∀ k, k < 3 → mI (cpS sG (o + (18 + 2 * L1.length)) (o + 12) Y) (o + (18 + 2 * L1.length)) k = 0 := fun k hk => by
              rw [cp_r, if_pos ⟨.inl rfl, by rw [Nat.sub_self]; unfold sG; rw [if_pos rfl]; exact decide_eq_true hk⟩, Nat.sub_self, ey _ _ (by omega) (by omega)]
              exact F1 k hk
            have t1 : ∀ k, 1 ≤ k → k < 6 → mI (cpS sG (o + (18 + 2 * L1.length)) (o + 12) Y) (o + (19 + 2 * L1.length)) k = 0 := fun k k1 hk => by
              rw [cp_r, if_pos ⟨.inr (by omega), by rw [show o + (19 + 2 * L1.length) - (o + (18 + 2 * L1.length)) = 1 by omega]; unfold sG; rw [if_neg (by decide)]; exact decide_eq_true ⟨k1, hk⟩⟩, show o + (19 + 2 * L1.length) - (o + (18 + 2 * L1.length)) = 1 by omega, ey _ _ (by omega) (by omega)]
              exact F2 k k1 hk
            rw [t0 0 (by omega), t0 1 (by omega), t0 2 (by omega), ad _ _ (by omega), c1]
            refine ⟨rfl, rfl, rfl, fun k hk => ?_⟩
            rw [t1 (k + 1) (by omega) (by omega), ad _ _ (by omega), c2 k hk]
            exact ⟨rfl, 0, by omega, rfl⟩
        · obtain ⟨c1, c2⟩ := c g' (by omega)
          rw [ad _ _ (by omega)]
          exact ⟨c1, fun k hk => by rw [ad _ _ (by omega)]; exact c2 k hk⟩
      · exact RF_fr RF1 (fun a k h => ag a k (by omega) (by omega) (by omega) (by omega) (by omega)) (fun j => agJ _ j (by omega)) (fun a k h => ad a k (by omega))
      · exact RO_fr RO1 (Nat.le_refl _) (by omega) (fun a k h => ag a k (by omega) (by omega) (by omega) (by omega) (by omega)) (fun a k h => ad a k (by omega))
      · exact RP_fr RP1 (Nat.le_refl _) (by omega) (fun a k h => ag a k (by omega) (by omega) (by omega) (by omega) (by omega)) (fun j => agJ _ j (by omega)) (fun a k h => ad a k (by omega))
      · refine RV_fr RV1 (Nat.le_refl _) (by omega) (by omega) (fun a k h => ag a k (by omega) (by omega) (by omega) (by omega) (by omega)) (fun j => ?_) (fun j hj => ad _ _ (by omega))
        show mR Y (o + 6) j = _
        rw [← hY, ← exR]
        rfl
