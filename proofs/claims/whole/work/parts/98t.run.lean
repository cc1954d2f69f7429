/-! ## Pure: the whole second pass against the class -/
theorem P2_op {Z g ps vs : Nat → Nat} {K r p o : Nat} {M0 : gMem} (W : CWd Z g ps vs K r p o M0) {m t : Nat} {D : gMem} {pre : List (Nat × Nat)} {k i c h h1 : Nat} {q q1 : Nat × Nat × Nat × Nat} {C : gMem} (CC : CI r o M0 C) (R : RAp Z vs r o m t pre k q C D) (hA : aA c q = some q1) (hH : hC c h = some h1) (tk : ¬ tkC c = true) (hE : c < 45 → (ceL pre).length < 400) : RAp Z vs r o m t (pre ++ [(c, i)]) k q1 (stp2 Z r p o (c, i) C) D := by
  have ok := aA_ok hA
  unfold okC at ok
  unfold RAp
  rw [pre_1, if_neg (fun z => tk z.1), pre_1, if_neg (fun z => tk z.1), pre_1, if_neg (fun z => tk z.1)]
  by_cases c45 : c < 45
  · have cv : c = 15 ∨ c = 44 ∨ (20 ≤ c ∧ c ≤ 24) ∨ (31 ≤ c ∧ c ≤ 39) := by
      unfold hC at hH
      by_cases z1 : c = 41 ∨ c = 2 ∨ c = 4 ∨ c = 15 ∨ c = 16 ∨ c = 17 ∨ c = 18 ∨ c = 19
      · have : ∀ c, c < 45 → c = 41 ∨ c = 2 ∨ c = 4 ∨ c = 16 ∨ c = 17 ∨ c = 18 ∨ c = 19 → tkC c = true := by decide +kernel
        by_cases z2 : c = 15
        · exact .inl z2
        · exact absurd (this c c45 (by omega)) tk
      rw [if_neg z1] at hH
      by_cases z2 : c = 20 ∨ c = 44
      · omega
      rw [if_neg z2] at hH
      by_cases z3 : c = 21 ∨ c = 22 ∨ c = 23 ∨ c = 24 ∨ (31 ≤ c ∧ c ≤ 39)
      · omega
      rw [if_neg z3, if_neg (by omega), if_neg (by omega), if_neg (by omega), if_neg (by omega)] at hH
      cases hH
    have hb : q.2.2.1 ≠ 1 ∧ q.2.2.1 ≠ 2 ∧ q.2.2.2 ≠ 1 := by
      unfold aA at hA
      rw [if_pos c45] at hA
      by_cases z : q.2.2.1 = 1 ∨ q.2.2.1 = 2 ∨ q.2.2.2 = 1
      · rw [if_pos z] at hA; cases hA
      · omega
    rw [aA_c c45 hb] at hA
    cases hA
    rw [pre_2, if_pos c45, pre_3, if_neg (by omega)]
    exact N_op W CC R (hE c45) cv hb.2.2
  rw [pre_2, if_neg c45]
  by_cases c100 : 1000 ≤ c
  · exfalso
    refine tk ?_
    unfold tkC
    rw [show decide (50 ≤ c) = true from decide_eq_true (by omega), show (c != 64) = true from bne_iff_ne.mpr (by omega), show (c != 65) = true from bne_iff_ne.mpr (by omega), show (c != 66) = true from bne_iff_ne.mpr (by omega)]
    simp
  have tk5 : ∀ x, x < 67 → 51 ≤ x → x ≤ 63 → tkC x = true := by decide +kernel
  have c6 : c = 64 ∨ c = 65 ∨ c = 66 := by
    by_cases z : c ≤ 63
    · exact absurd (tk5 c (by omega) (by omega) z) tk
    · omega
  rw [pre_3, if_neg (by omega)]
  rcases c6 with h | h | h
  · subst h
    have e : aA 64 q = (if q.2.2.1 = 3 ∧ q.2.2.2 ≠ 3 then some (q.1, q.2.1, 4, q.2.2.2) else none) := rfl
    rw [e] at hA
    by_cases z : q.2.2.1 = 3 ∧ q.2.2.2 ≠ 3
    · rw [if_pos z] at hA
      cases hA
      exact N_64 W CC R (.inl rfl) z.1
    · rw [if_neg z] at hA; cases hA
  · subst h
    have e : aA 65 q = (if q.2.2.2 = 3 ∧ q.2.2.1 ≠ 3 then some (q.1, q.2.1, q.2.2.1, 4) else none) := rfl
    rw [e] at hA
    by_cases z : q.2.2.2 = 3 ∧ q.2.2.1 ≠ 3
    · rw [if_pos z] at hA
      cases hA
      exact N_65 W CC R z.1
    · rw [if_neg z] at hA; cases hA
  · subst h
    have e : aA 66 q = (if q.2.2.1 = 3 ∧ q.2.2.2 ≠ 3 then some (q.1, q.2.1, 4, q.2.2.2) else none) := rfl
    rw [e] at hA
    by_cases z : q.2.2.1 = 3 ∧ q.2.2.2 ≠ 3
    · rw [if_pos z] at hA
      cases hA
      exact N_64 W CC R (.inr rfl) z.1
    · rw [if_neg z] at hA; cases hA
theorem M2_9 {m t j j' : Nat} {D0 D : gMem} (ht : m + 7 ≤ t) (h : M2I m t (wI D0 m 9 (nI j)) D) : M2I m t (wI D0 m 9 (nI j')) (wI D m 9 (nI j')) := by
  obtain ⟨h1, h2, h3, h4⟩ := h
  refine ⟨h1, fun a a1 a2 a3 => ?_, fun i => ?_, fun i i1 i2 i3 i4 i5 => ?_⟩
  · have := h2 a a1 a2 a3
    funext i
    have e := congrFun this i
    rw [wI_o (.inl a1)] at e
    rw [wI_o (.inl a1), wI_o (.inl a1)]; exact e
  · have e := h3 i
    by_cases z : i = 9
    · rw [z, wI_e, wI_e]
    · rw [wI_o (.inr z)] at e
      rw [wI_o (.inr z), wI_o (.inr z)]; exact e
  · have e := h4 i i1 i2 i3 i4 i5
    rw [wI_o (.inl (by omega))] at e
    rw [wI_o (.inl (by omega)), wI_o (.inl (by omega))]; exact e
theorem RA_9 {Z vs : Nat → Nat} {r o m t k k' : Nat} {pre : List (Nat × Nat)} {q : Nat × Nat × Nat × Nat} {C D : gMem} {v : Int32} (ht : m + 7 ≤ t) (R : RAp Z vs r o m t pre k q C D) (hk : k ≤ k') : RAp Z vs r o m t pre k' q C (wI D m 9 v) := by
  obtain ⟨h7, RG1, RF1, RO1, RP1, RV1⟩ := R
  have ad : ∀ a k, a ≠ m → mI (wI D m 9 v) a k = mI D a k := fun a k h => wI_o (.inl h)
  exact ⟨h7, RG_fr RG1 (fun _ _ _ => rfl) (fun _ => rfl) (fun a k h => ad a k (by omega)), RF_fr RF1 (fun _ _ _ => rfl) (fun _ => rfl) (fun a k h => ad a k (by omega)), RO_fr RO1 (Nat.le_refl _) (Nat.le_refl _) (fun _ _ _ => rfl) (fun a k h => ad a k (by omega)), RP_fr RP1 (Nat.le_refl _) (Nat.le_refl _) (fun _ _ _ => rfl) (fun _ => rfl) (fun a k h => ad a k (by omega)), RV_fr RV1 (Nat.le_refl _) (Nat.le_refl _) hk (fun _ _ _ => rfl) (fun _ => rfl) (fun j _ => ad _ _ (by omega))⟩
/-- the world of the run -/
def PRW (g vs ps ro : Nat → Nat) (K m t : Nat) (D0 : gMem) : Prop := (∀ v, P2W g vs ro K m t (wI D0 m 9 v)) ∧ mR D0 m 5 = some (m + 3) ∧ mT D0 (m + 3) = 20 ∧ mL D0 (m + 3) = 401 ∧ ∀ i, i ≤ K → mI D0 (m + 3) i = nI (ps i)
theorem r57_s {g vs ps ro : Nat → Nat} {K m t : Nat} {D0 : gMem} (P : PRW g vs ps ro K m t D0) {Z : Nat → Nat} {j e : Nat} {D D1 : gMem} (h : M2I m t (wI D0 m 9 (nI j)) D) (hj : j < e) (he : e ≤ K) (hE : f_X14_errorOf D m (nI j) = some ((0 : Int32), D1)) (h1 : M2I m t (wI D0 m 9 (nI j)) D1) : lp_X14_read_57 Z D m (nI e) = lp_X14_read_57 Z (wI D1 m 9 (nI (j + 1))) m (nI e) := by
  have hK := (P.1 0).2.2.1
  have t0 : mT D m = 13 := (M2_B (P.1 _).1 h).1.1.1
  have t1 : mT D1 m = 13 := (M2_B (P.1 _).1 h1).1.1.1
  have e9 : mI D m 9 = nI j := (h.2.2.1 9).trans (wI_e _ _ _ _)
  have e91 : mI D1 m 9 = nI j := (h1.2.2.1 9).trans (wI_e _ _ _ _)
  refine lp_in ?_
  show bb_X14_read_57 Z D m (nI e) = _
  unfold bb_X14_read_57
  rw [ck_t t0, e9, if_neg (fun z => by have := (nI_leI (by omega) (by omega)).mp z; omega), hE, bd_S, if_pos rfl, ck_t t1, e91, nI_1, lw_S]
theorem r57_e {g vs ps ro : Nat → Nat} {K m t : Nat} {D0 : gMem} (P : PRW g vs ps ro K m t D0) {Z : Nat → Nat} {j e er : Nat} {D D1 : gMem} (h : M2I m t (wI D0 m 9 (nI j)) D) (hj : j < e) (he : e ≤ K) (hE : f_X14_errorOf D m (nI j) = some (nI er, D1)) (h1 : M2I m t (wI D0 m 9 (nI j)) D1) (r1 : er ≠ 0) (r2 : er < 16) : lp_X14_read_57 Z D m (nI e) = some (nI er, wI D1 m 3 (nI (ps j))) := by
  obtain ⟨P1, f5, f3, l3, fp⟩ := P
  have hK := (P1 0).2.2.1
  have ht := (P1 0).1.1.2.2
  have t0 : mT D m = 13 := (M2_B (P1 _).1 h).1.1.1
  have t1 : mT D1 m = 13 := (M2_B (P1 _).1 h1).1.1.1
  have e9 : mI D m 9 = nI j := (h.2.2.1 9).trans (wI_e _ _ _ _)
  have e91 : mI D1 m 9 = nI j := (h1.2.2.1 9).trans (wI_e _ _ _ _)
  have q : inb (nI j) 401 := (inbN (by omega)).mpr (by omega)
  obtain ⟨⟨a1, a2, -, a4, -⟩, b, -⟩ := h1
  have e3 : mI D1 (m + 3) j = nI (ps j) := by
    rw [b (m + 3) (by omega) (by omega) (by omega), wI_o (.inl (by omega))]
    exact fp j (by omega)
  refine lp_out ?_
  show bb_X14_read_57 Z D m (nI e) = _
  unfold bb_X14_read_57
  rw [ck_t t0, e9, if_neg (fun z => by have := (nI_leI (by omega) (by omega)).mp z; omega), hE, bd_S, if_neg (show ¬ nI er = (0 : Int32) from nI_ne (b := 0) r1 (by omega) (by omega)), ck_t t1, a4, show mR (wI D0 m 9 (nI j)) m 5 = some (m + 3) from f5, dr_S, a1, ck_t (show mT (wI D0 m 9 (nI j)) (m + 3) = 20 from f3), e91, a2, show mL (wI D0 m 9 (nI j)) (m + 3) = 401 from l3, ck_t q, nI_clamp (by omega), e3, lw_S]
  rfl
theorem r57_o {g vs ps ro : Nat → Nat} {K m t : Nat} {D0 : gMem} (P : PRW g vs ps ro K m t D0) {Z : Nat → Nat} {e : Nat} {D : gMem} (h : M2I m t (wI D0 m 9 (nI e)) D) : lp_X14_read_57 Z D m (nI e) = lp_X14_read_111 Z D m 0 := by
  have t0 : mT D m = 13 := (M2_B (P.1 _).1 h).1.1.1
  have e9 : mI D m 9 = nI e := (h.2.2.1 9).trans (wI_e _ _ _ _)
  refine lp_oI1 ?_
  show bb_X14_read_57 Z D m (nI e) = _
  unfold bb_X14_read_57
  rw [ck_t t0, e9, if_pos (Int32.le_refl _)]
theorem r57_k {g vs ps ro : Nat → Nat} {K m t : Nat} {D0 : gMem} (P : PRW g vs ps ro K m t D0) {Z : Nat → Nat} {e : Nat} (he : e ≤ K) : ∀ d k D, M2I m t (wI D0 m 9 (nI k)) D → k + d ≤ e → (∀ j, k ≤ j → j < k + d → ro j = 0) → lp_X14_read_57 Z D m (nI e) = lp_X14_read_57 Z (wI D m 9 (nI (k + d))) m (nI e)
  | 0, k, D, h, _, _ => by
    rw [Nat.add_zero, wI_s ((h.2.2.1 9).trans (wI_e _ _ _ _))]
  | d + 1, k, D, h, hd, hr => by
    have ht := (P.1 0).1.1.2.2
    rw [r57_s P h (by omega) he (E_0 (P.1 _) h (by omega) (hr k (Nat.le_refl _) (by omega))) h, r57_k P he d (k + 1) _ (M2_9 ht h) (by omega) (fun j j1 j2 => hr j (by omega) (by omega)), wI_2, show k + 1 + d = k + (d + 1) by omega]
theorem P2_run {Z g ps vs : Nat → Nat} {K r p o : Nat} {M0 : gMem} (W : CWd Z g ps vs K r p o M0) {m t e hh : Nat} {D0 : gMem} {es : List (Nat × Nat)} {qE : Nat × Nat × Nat × Nat} {Inv : List (Nat × Nat) → Nat × Nat × Nat × Nat → Nat → gMem → Prop} (hInv : ∀ pre suf c i q q1 h h1 k k' C D D', es = pre ++ (c, i) :: suf → CI r o M0 C → RAp Z vs r o m t pre k q C D → RAp Z vs r o m t (pre ++ [(c, i)]) k' q1 (stp2 Z r p o (c, i) C) D' → aA c q = some q1 → hC c h = some h1 → Inv pre q h C → Inv (pre ++ [(c, i)]) q1 h1 (stp2 Z r p o (c, i) C)) (P : PRW g vs ps (roE es) K m t D0) (he : e ≤ K) (hvs : ∀ i, vs i < 2 ^ 62) (hcc : cc es ≤ 400) : ∀ suf k pre q h C D, es = pre ++ suf → ES g 0 pre k → ES g k suf e → aE suf q = some qE → hE suf h = some hh → RAp Z vs r o m t pre k q C D → CI r o M0 C → M2I m t (wI D0 m 9 (nI k)) D → Inv pre q h C →
    (∃ er i D', er ≠ 0 ∧ er < 16 ∧ i ≤ K ∧ lp_X14_read_57 Z D m (nI e) = some (nI er, wI D' m 3 (nI (ps i))) ∧ M2I m t (wI D0 m 9 (nI i)) D' ∧ ER r er i ps (rnE Z r p o suf C)) ∨ ∃ D', lp_X14_read_57 Z D m (nI e) = lp_X14_read_111 Z D' m 0 ∧ M2I m t (wI D0 m 9 (nI e)) D' ∧ RAp Z vs r o m t (pre ++ suf) e qE (rnE Z r p o suf C) D' ∧ Inv (pre ++ suf) qE hh (rnE Z r p o suf C)
  | [], k, pre, q, h, C, D, h1, h2, h3, h4, h5, R, CC, DD, VV => by
    have ht := (P.1 0).1.1.2.2
    have hke : k ≤ e := h3
    have hz : ∀ j, k ≤ j → roE es j = 0 := fun j hj => by rw [h1, List.append_nil]; exact roE_hi pre 0 k j h2 hj
    have e1 := r57_k (Z := Z) P he (e - k) k D DD (by omega) (fun j j1 j2 => hz j j1)
    rw [show k + (e - k) = e by omega] at e1
    have DE : M2I m t (wI D0 m 9 (nI e)) (wI D m 9 (nI e)) := M2_9 ht DD
    cases h4
    cases h5
    exact .inr ⟨_, e1.trans (r57_o P DE), DE, by rw [List.append_nil]; exact RA_9 ht R hke, by rw [List.append_nil]; exact VV⟩
  | (c, i) :: suf, k, pre, q, h, C, D, h1, h2, h3, h4, h5, R, CC, DD, VV => by
    have ht := (P.1 0).1.1.2.2
    have ho := (W_ho W).2
    rw [ES] at h3
    rw [aE] at h4
    rw [hE] at h5
    have hassoc : es = pre ++ [(c, i)] ++ suf := by rw [h1, List.append_assoc]; rfl
    have CC1 : CI r o M0 (stp2 Z r p o (c, i) C) := CI_s1 W (CI_at ho CC)
    have hEl : c < 45 → (ceL pre).length < 400 := fun z => by
      have := hcc
      rw [h1, cc_app] at this
      have e2 : cc ((c, i) :: suf) = 1 + cc suf := by rw [cc, if_pos z]
      rw [e2] at this
      rw [ceL_cc]; omega
    cases hA : aA c q with
    | none => simp only [hA] at h4; cases h4
    | some q1 =>
    simp only [hA] at h4
    cases hH : hC c h with
    | none => simp only [hH] at h5; cases h5
    | some hx =>
    simp only [hH] at h5
    by_cases tk : tkC c = true
    · rw [if_pos (show tkC (c, i).1 = true from tk)] at h3
      obtain ⟨k1, k2, k3⟩ := h3
      have k1 : k ≤ i := k1
      have k2 : g i = kdC c := k2
      have k3 : ES g (i + 1) suf e := k3
      have ie := ES_le suf _ e k3
      have ESc : ES g k [(c, i)] (i + 1) := by rw [ES, if_pos (show tkC (c, i).1 = true from tk)]; exact ⟨k1, k2, Nat.le_refl _⟩
      have ESs : ES g k ((c, i) :: suf) e := by rw [ES, if_pos (show tkC (c, i).1 = true from tk)]; exact ⟨k1, k2, k3⟩
      have rj : ∀ j, k ≤ j → j < i → roE es j = 0 := fun j j1 j2 => by
        rw [h1, roE_app pre _ 0 k e j h2 ESs, if_neg (by omega)]
        show (if tkC c = true ∧ i = j then rl c else roE suf j) = 0
        rw [if_neg (by omega)]
        exact roE_lo suf _ e j k3 (by omega)
      have ri : roE es i = rl c := by
        rw [h1, roE_app pre _ 0 k e i h2 ESs, if_neg (by omega)]
        exact if_pos ⟨tk, rfl⟩
      have hL : ∀ w, 1 ≤ w → tdS (roE es) vs w (vs i) i 0 0 = lkL vs (vs i) (tks w pre) 0 := fun w hw => by
        have := tds_es (vs := vs) (ro := roE es) (v := vs i) hw pre 0 0 i (ES_up pre _ _ _ h2 k1) (fun j _ j2 => by
          by_cases z : j < k
          · rw [h1, roE_app pre _ 0 k e j h2 ESs, if_pos z]
          · rw [rj j (by omega) j2, roE_hi pre 0 k j h2 (by omega)])
        rw [Nat.sub_zero] at this
        exact this
      have e1 := r57_k (Z := Z) P he (i - k) k D DD (by omega) (fun j j1 j2 => rj j j1 (by omega))
      rw [show k + (i - k) = i by omega] at e1
      have D1 : M2I m t (wI D0 m 9 (nI i)) (wI D m 9 (nI i)) := M2_9 ht DD
      have R1 := RA_9 (v := nI i) ht R k1
      have out := P2_tok W (P.1 _) D1 CC R1 hA hH tk (by omega) (Nat.le_refl i) (hvs i) k2 hEl ri hL
      rcases out with ⟨er, D2, r1, r2, r3, r4, r5⟩ | ⟨D2, r3, r4, R2⟩
      · exact .inl ⟨er, i, D2, r1, r2, by omega, e1.trans (r57_e P D1 (by omega) he r3 r4 r1 r2), r4, ER_k r1 r2 r5 (kp_rn W suf _ CC1)⟩
      · have e2 := r57_s (Z := Z) P D1 (by omega) he r3 r4
        have ih := P2_run W hInv P he hvs hcc suf (i + 1) (pre ++ [(c, i)]) q1 hx _ (wI D2 m 9 (nI (i + 1))) hassoc (ES_app pre _ _ _ _ h2 ESc) k3 h4 h5 (RA_9 ht R2 (Nat.le_refl _)) CC1 (M2_9 ht r4) (hInv pre suf c i q q1 h hx _ _ C _ _ h1 CC R R2 hA hH VV)
        rw [List.append_assoc] at ih
        rcases ih with ⟨er, i', D', s1, s2, s3, s4, s5⟩ | ⟨D', s1, s2⟩
        · exact .inl ⟨er, i', D', s1, s2, s3, (e1.trans e2).trans s4, s5⟩
        · exact .inr ⟨D', (e1.trans e2).trans s1, s2⟩
    · rw [if_neg (show ¬ tkC (c, i).1 = true from tk)] at h3
      have ESc : ES g k [(c, i)] k := by rw [ES, if_neg (show ¬ tkC (c, i).1 = true from tk)]; exact Nat.le_refl k
      have R1 := P2_op (i := i) W CC R hA hH tk hEl
      have ih := P2_run W hInv P he hvs hcc suf k (pre ++ [(c, i)]) q1 hx _ D hassoc (ES_app pre _ _ _ _ h2 ESc) h3 h4 h5 R1 CC1 DD (hInv pre suf c i q q1 h hx _ _ C _ _ h1 CC R R1 hA hH VV)
      rw [List.append_assoc] at ih
      exact ih
