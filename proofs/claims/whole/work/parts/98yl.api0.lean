/-! ## Pure: what the methods begin and end with -/
theorem nn_ex {x : Int32} (h : ¬ x < 0) : ∃ a, x = nI a ∧ a < 2 ^ 31 := by
  have h0 : 0 ≤ x.toInt := by
    have : ¬ x.toInt < (0 : Int32).toInt := fun z => h (Int32.lt_iff_toInt_lt.mpr z)
    have e : (0 : Int32).toInt = 0 := by decide
    omega
  have h1 : x.toInt < 2 ^ 31 := Int32.toInt_lt x
  refine ⟨x.toInt.toNat, ?_, by omega⟩
  apply Int32.toInt_inj.mp
  show _ = (Int32.ofNat _).toInt
  rw [Int32.toInt_ofNat_of_lt (by omega)]
  omega
theorem m_isIn {M : gMem} {x y z : Int32} : f_X14_isIn M x y z = some (if x < y ∨ z < x then 0 else 1, M) := by
  unfold f_X14_isIn b_X14_isIn_0 b_X14_isIn_14 b_X14_isIn_15
  by_cases h1 : x < y
  · rw [if_pos h1, if_pos (Or.inl h1), ck_t (.inl rfl)]
  · rw [if_neg h1]
    by_cases h2 : z < x
    · rw [if_pos h2, if_pos (Or.inr h2), ck_t (.inl rfl)]
    · rw [if_neg h2, if_neg (by rintro (z | z); exact h1 z; exact h2 z), ck_t (.inr rfl)]
theorem m_no {M : gMem} {m : Nat} {x : Int32} (h : mT M m = 13) : f_X14_no M m x = some (0, wI M m 0 x) := by
  unfold f_X14_no b_X14_no_0 lw
  rw [ck_t h]
/-- a number below a bound, told in two ways -/
theorem in_bnd {x : Int32} {n : Nat} (hn : n ≤ 2000) : (x < 0 ∨ nI n - (1 : Int32) < x) ↔ ¬ ∃ a, a < n ∧ x = nI a := by
  by_cases h : x < 0
  · refine ⟨fun _ => ?_, fun _ => .inl h⟩
    rintro ⟨a, h1, h2⟩
    rw [h2] at h
    exact absurd ((nI_ltI (a := a) (b := 0) (by omega) (by omega)).mp h) (by omega)
  · obtain ⟨a, h1, h2⟩ := nn_ex h
    subst h1
    refine ⟨?_, fun w => .inr ?_⟩
    · rintro (z | z)
      · exact absurd z h
      · rintro ⟨c, c1, c2⟩
        have e : a = c := (nI_eq h2 (by omega)).mp c2
        rw [show (1 : Int32) = nI 1 from rfl, nI_sub (by omega), nI_ltI (by omega) h2] at z
        omega
    · have : n ≤ a := Classical.byContradiction fun z => w ⟨a, by omega, rfl⟩
      by_cases n0 : n = 0
      · subst n0
        show (-1 : Int32) < nI a
        apply Int32.lt_iff_toInt_lt.mpr
        show _ < (Int32.ofNat a).toInt
        rw [Int32.toInt_ofNat_of_lt (by omega)]
        have e : (-1 : Int32).toInt = -1 := by decide
        omega
      · rw [show (1 : Int32) = nI 1 from rfl, nI_sub (by omega), nI_ltI (by omega) h2]
        omega
theorem in_bnd2 {x : Int32} {n : Nat} (hn : n ≤ 2000) : (¬ x < 0 ∧ x < nI n) ↔ ∃ a, a < n ∧ x = nI a := by
  refine ⟨fun ⟨h, h'⟩ => ?_, ?_⟩
  · obtain ⟨a, h1, h2⟩ := nn_ex h
    subst h1
    rw [nI_ltI h2 (by omega)] at h'
    exact ⟨a, h', rfl⟩
  · rintro ⟨a, h1, h2⟩
    subst h2
    refine ⟨fun z => ?_, (nI_ltI (by omega) (by omega)).mpr h1⟩
    exact absurd ((nI_ltI (a := a) (b := 0) (by omega) (by omega)).mp z) (by omega)
/-- both objects in one memory, and the law's row of one long behind them -/
def STvR (Z : Nat → Nat) (b m o o' t n kb : Nat) (T : Nat → Nat) (M : gMem) : Prop :=
  b + 178 ≤ m ∧ CIv b o o' n T M ∧ MIv m t n T M ∧ RELv Z kb o m t M ∧ mI M b 3 = mI M m 3
def STv (Z : Nat → Nat) (b m o o' t n kb : Nat) (T : Nat → Nat) (M : gMem) : Prop :=
  (b + 178 ≤ m ∧ m + 60 ≤ mN M ∧ mT M (m + 59) = 21 ∧ mL M (m + 59) = 1) ∧ CIv b o o' n T M ∧ MIv m t n T M ∧ RELv Z kb o m t M ∧ mI M b 3 = mI M m 3
theorem TP_n {p n n' : Nat} {T T' : Nat → Nat} {M X : gMem} (P : TP p n T M (mI M) (mR M)) (h : ∀ j, j < 5 → mT X (p + j) = mT M (p + j) ∧ mL X (p + j) = mL M (p + j)) (hR : mR X p = mR M p) (h2 : mI X p 0 = nI n') (h3 : n' ≤ 2000) (h4 : ∀ q, q < n' → mI X (p + 1) q = sB (T' q) ∧ T' q < 256) : TP p n' T' X (mI X) (mR X) := by
  obtain ⟨⟨a0, a1, a2, a3, a4, a5, a6, a7, a8⟩, ⟨b1, b4, b5, b6⟩, c, d, e⟩ := P
  have t0 : mT X p = mT M p := (h 0 (by omega)).1
  exact ⟨⟨t0.trans a0, (h 1 (by omega)).1.trans a1, (h 1 (by omega)).2.trans a2, (h 2 (by omega)).1.trans a3, (h 2 (by omega)).2.trans a4, (h 3 (by omega)).1.trans a5, (h 3 (by omega)).2.trans a6, (h 4 (by omega)).1.trans a7, (h 4 (by omega)).2.trans a8⟩, ⟨by rw [hR]; exact b1, by rw [hR]; exact b4, by rw [hR]; exact b5, by rw [hR]; exact b6⟩, h2, h3, h4⟩
theorem MP_n {m n n' : Nat} {T T' : Nat → Nat} {M X : gMem} (P : MP m n T M (mI M) (mR M)) (h : ∀ j, j < 7 → mT X (m + j) = mT M (m + j) ∧ mL X (m + j) = mL M (m + j)) (hR : ∀ k, k < 9 → mR X m k = mR M m k) (h2 : mI X m 2 = nI n') (h3 : n' ≤ 2000) (h4 : ∀ q, q < n' → mI X (m + 1) q = nI (T' q) ∧ T' q < 256) : MP m n' T' X (mI X) (mR X) := by
  obtain ⟨⟨a1, a2, a3, a4⟩, ⟨b1, b4, b5, b6, b7, b8⟩, c, d, e⟩ := P
  have t0 : mT X m = mT M m := (h 0 (by omega)).1
  exact ⟨⟨t0.trans a1, fun j j1 j2 => (h j j2).1.trans (a2 j j1 j2), (h 1 (by omega)).2.trans a3, fun j j1 j2 => (h j j2).2.trans (a4 j j1 j2)⟩, ⟨by rw [hR 1 (by omega)]; exact b1, by rw [hR 4 (by omega)]; exact b4, by rw [hR 5 (by omega)]; exact b5, by rw [hR 6 (by omega)]; exact b6, by rw [hR 7 (by omega)]; exact b7, by rw [hR 8 (by omega)]; exact b8⟩, h2, h3, h4⟩
/-- the frame, with new texts on both tapes -/
theorem STvR_n {Z : Nat → Nat} {b m o o' t n n' kb : Nat} {T T' : Nat → Nat} {M X : gMem} (S : STvR Z b m o o' t n kb T M) (hT : ∀ a, a < mN M → mT X a = mT M a ∧ mL X a = mL M a ∧ mR X a = mR M a) (hI : ∀ a, a < mN M → a ≠ m → a ≠ b + 1 → a ≠ b + 2 → a ≠ m + 1 → mI X a = mI M a) (hm : mI X m 3 = mI M m 3) (hp : mI X (b + 1) 0 = nI n' ∧ mI X m 2 = nI n' ∧ n' ≤ 2000) (hb : ∀ q, q < n' → mI X (b + 2) q = sB (T' q) ∧ mI X (m + 1) q = nI (T' q) ∧ T' q < 256) (hN : mN M ≤ mN X) : STvR Z b m o o' t n' kb T' X := by
  obtain ⟨s0, ⟨⟨t0, r0, r1, r2⟩, oo, TPM, ⟨L1, L2, F1, F2, P1, P2⟩, cN⟩, ⟨P, ⟨m11, m13, m14⟩, ⟨LA, LB⟩, ⟨v1, v2, v3, v4⟩⟩, RL, e3⟩ := S
  have hR : ∀ a, a < mN M → mR X a = mR M a := fun a h => (hT a h).2.2
  refine ⟨s0, ⟨⟨(hT b (by omega)).1.trans t0, by rw [hR b (by omega)]; exact r0, by rw [hR b (by omega)]; exact r1, by rw [hR b (by omega)]; exact r2⟩, oo, TP_n TPM (fun j hj => ⟨(hT _ (by omega)).1, (hT _ (by omega)).2.1⟩) (hR _ (by omega)) hp.1 hp.2.2 (fun q hq => ⟨(hb q hq).1, (hb q hq).2.2⟩), ⟨LC_e L1 fun d hd => ?_, LC_e L2 fun d hd => ?_, FRS_e F1 fun d i1 i2 => hI _ (by omega) (by omega) (by omega) (by omega) (by omega), FRS_e F2 fun d i1 i2 => hI _ (by omega) (by omega) (by omega) (by omega) (by omega), PSz_e P1 fun d i1 i2 => hI _ (by omega) (by omega) (by omega) (by omega) (by omega), PSz_e P2 fun d i1 i2 => hI _ (by omega) (by omega) (by omega) (by omega) (by omega)⟩, by omega⟩, ⟨MP_n P (fun j hj => ⟨(hT _ (by omega)).1, (hT _ (by omega)).2.1⟩) (fun k _ => by rw [hR m (by omega)]) hp.2.1 hp.2.2 (fun q hq => (hb q hq).2), ⟨by rw [hR m (by omega)]; exact m11, by rw [hR m (by omega)]; exact m13, by rw [hR m (by omega)]; exact m14⟩, ⟨LS_e2 LA (mN M) (fun c i1 i2 => ⟨(hT c i2).1, (hT c i2).2.1, fun _ => hR c i2⟩) (by rw [hR m (by omega)]) (by omega) (by omega) (by omega) (by omega), LS_e2 LB (mN M) (fun c i1 i2 => ⟨(hT c i2).1, (hT c i2).2.1, fun _ => hR c i2⟩) (by rw [hR m (by omega)]) (by omega) (by omega) (by omega) (by omega)⟩, v1, by omega, by omega, v4⟩, REL_fr RL (fun d hd => hI _ (by omega) (by omega) (by omega) (by omega) (by omega)) (hR _ (by omega)) (fun j hj => hI _ (by omega) (by omega) (by omega) (by omega) (by omega)) (fun j hj => hI _ (by omega) (by omega) (by omega) (by omega) (by omega)), ?_⟩
  · exact ⟨(hT _ (by omega)).1, (hT _ (by omega)).2.1, fun _ => hR _ (by omega)⟩
  · exact ⟨(hT _ (by omega)).1, (hT _ (by omega)).2.1, fun _ => hR _ (by omega)⟩
  · rw [hm, hI b (by omega) (by omega) (by omega) (by omega) (by omega)]; exact e3
theorem STv_n {Z : Nat → Nat} {b m o o' t n n' kb : Nat} {T T' : Nat → Nat} {M X : gMem} (S : STv Z b m o o' t n kb T M) (hT : ∀ a, a < mN M → mT X a = mT M a ∧ mL X a = mL M a ∧ mR X a = mR M a) (hI : ∀ a, a < mN M → a ≠ m → a ≠ b + 1 → a ≠ b + 2 → a ≠ m + 1 → mI X a = mI M a) (hm : mI X m 3 = mI M m 3) (hp : mI X (b + 1) 0 = nI n' ∧ mI X m 2 = nI n' ∧ n' ≤ 2000) (hb : ∀ q, q < n' → mI X (b + 2) q = sB (T' q) ∧ mI X (m + 1) q = nI (T' q) ∧ T' q < 256) (hN : mN M ≤ mN X) : STv Z b m o o' t n' kb T' X := by
  obtain ⟨r1, r2⟩ := STvR_n (⟨S.1.1, S.2⟩ : STvR Z b m o o' t n kb T M) hT hI hm hp hb hN
  have s0 := S.1
  exact ⟨⟨r1, by omega, by rw [(hT _ (by omega)).1]; exact s0.2.2.1, by rw [(hT _ (by omega)).2.1]; exact s0.2.2.2⟩, r2⟩
theorem STv_fr {Z : Nat → Nat} {b m o o' t n kb : Nat} {T : Nat → Nat} {M X : gMem} (S : STv Z b m o o' t n kb T M) (hT : ∀ a, a < mN M → mT X a = mT M a ∧ mL X a = mL M a ∧ mR X a = mR M a ∧ (a ≠ m → mI X a = mI M a)) (hm : ∀ k, k ≠ 0 → mI X m k = mI M m k) (hN : mN M ≤ mN X) : STv Z b m o o' t n kb T X := by
  have h := id S
  obtain ⟨s0, ⟨⟨t0, r0, r1, r2⟩, oo, TPM, -, cN⟩, ⟨P, -, -, ⟨v1, v2, v3, v4⟩⟩, -, -⟩ := h
  refine STv_n S (fun a h => ⟨(hT a h).1, (hT a h).2.1, (hT a h).2.2.1⟩) (fun a h h1 _ _ _ => (hT a h).2.2.2 h1) (hm 3 (by decide)) ⟨by rw [(hT (b + 1) (by omega)).2.2.2 (by omega)]; exact TPM.2.2.1, by rw [hm 2 (by decide)]; exact P.2.2.1, P.2.2.2.1⟩ (fun q hq => ⟨?_, ?_, (P.2.2.2.2 q hq).2⟩) hN
  · rw [(hT (b + 2) (by omega)).2.2.2 (by omega)]; exact (TPM.2.2.2.2 q hq).1
  · rw [(hT (m + 1) (by omega)).2.2.2 (by omega)]; exact (P.2.2.2.2 q hq).1
theorem STv_0 {Z : Nat → Nat} {b m o o' t n kb : Nat} {T : Nat → Nat} {M : gMem} {x : Int32} (S : STv Z b m o o' t n kb T M) : STv Z b m o o' t n kb T (wI M m 0 x) :=
  STv_fr S (fun a _ => ⟨rfl, rfl, rfl, fun h => by funext k; exact wI_o (.inl h)⟩) (fun k h => wI_o (.inr h)) (Nat.le_refl _)
/-- the answers of both, an exception by its kind -/
def AGR (c1 c2 : Nat) (r : Nat ⊕ Int32) (v k : Int32) : Prop := (r = .inr v ∧ k = 0) ∨ (r = .inl c1 ∧ k = 1) ∨ (c2 < 9 ∧ r = .inl c2 ∧ k = 2)
theorem T_errorAt {Z : Nat → Nat} {b m o o' t n kb : Nat} {T : Nat → Nat} {M : gMem} (S : STv Z b m o o' t n kb T M) : ∃ x, f_X11_errorAt M b = some (x, M) ∧ f_X14_errorAt M m = some (x, wI M m 0 0) ∧ STv Z b m o o' t n kb T (wI M m 0 0) := by
  refine ⟨mI M b 3, ?_, ?_, STv_0 S⟩
  · unfold f_X11_errorAt b_X11_errorAt_0
    rw [ck_t S.2.1.1.1]
  · unfold f_X14_errorAt b_X14_errorAt_0
    rw [ck_t S.2.2.1.1.1.1, lw_S, wI_o (.inr (by decide)), S.2.2.2.2]
theorem T_trim {Z : Nat → Nat} {b m o o' t n kb : Nat} {T : Nat → Nat} {M : gMem} {x : Int32} (S : STv Z b m o o' t n kb T M) : ∃ r M1 v M2 n', f_X11_trim M b x = some (r, M1) ∧ f_X14_trim M1 m x = some (v, M2) ∧ AGR 1 9 r v (mI M2 m 0) ∧ STv Z b m o o' t n' kb T M2 ∧ mN M2 = mN M := by
  have h := id S
  obtain ⟨s0, ⟨⟨t0, r0, r1, r2⟩, oo, TPM, -, cN⟩, ⟨P, -, -, ⟨v1, v2, v3, v4⟩⟩, -, -⟩ := h
  have hn := P.2.2.2.1
  have cn : mI M (b + 1) 0 = nI n := TPM.2.2.1
  have mn : mI M m 2 = nI n := P.2.2.1
  have t9 : mT M (b + 1) = 9 := TPM.1.1
  have t13 : mT M m = 13 := P.1.1
  by_cases h0 : x < 0
  · refine ⟨.inl 1, M, 0, wI (wI M m 0 0) m 0 1, n, ?_, ?_, .inr (.inl ⟨rfl, wI_e _ _ _ _⟩), STv_0 (STv_0 S), rfl⟩
    · unfold f_X11_trim b_X11_trim_0 b_X11_trim_15
      rw [if_pos h0]
    · unfold f_X14_trim b_X14_trim_0
      rw [ck_t t13, lw_S, bd_s m_isIn, if_pos (Or.inl h0), if_pos rfl, ck_t (show mT (wI M m 0 0) m = 13 from t13), bd_s (m_no (show mT (wI M m 0 0) m = 13 from t13))]
  · by_cases h1 : x ≤ nI n
    · obtain ⟨a, ha, hb⟩ := nn_ex h0
      subst ha
      have h2 := (nI_leI hb (by omega)).mp h1
      have h3 : ¬ nI n < nI a := fun z => by have := (nI_ltI (by omega) hb).mp z; omega
      refine ⟨.inr (nI a), wI M (b + 1) 0 (nI a), nI a, wI (wI (wI M (b + 1) 0 (nI a)) m 0 0) m 2 (nI a), a, ?_, ?_, .inl ⟨rfl, ?_⟩, ?_, rfl⟩
      · unfold f_X11_trim b_X11_trim_0 b_X11_trim_15
        rw [if_neg h0, ck_t t0, dr_s r0, ck_t t9, cn, if_pos h1, lw_S]
      · unfold f_X14_trim b_X14_trim_0
        have e1 : mI (wI (wI M (b + 1) 0 (nI a)) m 0 0) m 2 = nI n := by rw [wI_o (.inr (by decide)), wI_o (.inl (by omega))]; exact mn
        rw [ck_t (show mT (wI M (b + 1) 0 (nI a)) m = 13 from t13), lw_S, bd_s m_isIn, e1, if_neg (show ¬ (nI a < 0 ∨ nI n < nI a) from fun z => z.elim h0 h3), if_neg (show ¬ (1 : Int32) = 0 by decide), ck_t (show mT (wI (wI M (b + 1) 0 (nI a)) m 0 0) m = 13 from t13), lw_S]
      · rw [wI_o (.inr (by decide)), wI_e]
      · refine STv_n S (fun c _ => ⟨rfl, rfl, rfl⟩) (fun c _ i1 i2 i3 i4 => ?_) ?_ ⟨?_, ?_, by omega⟩ (fun q hq => ⟨?_, ?_, (P.2.2.2.2 q (by omega)).2⟩) (Nat.le_refl _)
        · funext k
          rw [wI_o (.inl i1), wI_o (.inl i1), wI_o (.inl i2)]
        · rw [wI_o (.inr (by decide)), wI_o (.inr (by decide)), wI_o (.inl (by omega))]
        · rw [wI_o (.inl (by omega)), wI_o (.inl (by omega)), wI_e]
        · exact wI_e _ _ _ _
        · rw [wI_o (.inl (by omega)), wI_o (.inl (by omega)), wI_o (.inl (by omega))]; exact (TPM.2.2.2.2 q (by omega)).1
        · rw [wI_o (.inl (by omega)), wI_o (.inl (by omega)), wI_o (.inl (by omega))]; exact (P.2.2.2.2 q (by omega)).1
    · have h3 : nI n < x := Int32.lt_iff_toInt_lt.mpr (by have : ¬ x.toInt ≤ (nI n).toInt := fun z => h1 (Int32.le_iff_toInt_le.mpr z); omega)
      refine ⟨.inl 1, M, 0, wI (wI M m 0 0) m 0 1, n, ?_, ?_, .inr (.inl ⟨rfl, wI_e _ _ _ _⟩), STv_0 (STv_0 S), rfl⟩
      · unfold f_X11_trim b_X11_trim_0 b_X11_trim_15
        rw [if_neg h0, ck_t t0, dr_s r0, ck_t t9, cn, if_neg h1]
      · unfold f_X14_trim b_X14_trim_0
        have e1 : mI (wI M m 0 0) m 2 = nI n := by rw [wI_o (.inr (by decide))]; exact mn
        rw [ck_t t13, lw_S, bd_s m_isIn, e1, if_pos (Or.inr h3), if_pos rfl, ck_t (show mT (wI M m 0 0) m = 13 from t13), bd_s (m_no (show mT (wI M m 0 0) m = 13 from t13))]
