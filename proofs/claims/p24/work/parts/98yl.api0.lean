/-! ## Pure: what the methods begin and end with -/
theorem nn_ex {x : Int32} (h : ¬ x < 0) : ∃ a, x = nI a ∧ a < 2 ^ 31 := by
  have h0 : 0 ≤ x.toInt := by
    have : ¬ x.toInt < (0 : Int32).toInt := fun z => h (Int32.lt_iff_toInt_lt.mpr z)
    have e : (0 : Int32).toInt = 0 := by decide
    omega
  have h1 : x.toInt < 2 ^ 31 := Int32.toInt_lt x
  refine ⟨x.toInt.toNat, ?_, by omega⟩
  apply Int32.toInt_inj.mp
  show _ = (Int32.ofNat _).toInt
  rw [Int32.toInt_ofNat_of_lt (by omega)]
  omega
/-- a number below a bound, told in two ways -/
theorem in_bnd {x : Int32} {n : Nat} (hn : n ≤ 2000) : (x < 0 ∨ nI n - (1 : Int32) < x) ↔ ¬ ∃ a, a < n ∧ x = nI a := by
  by_cases h : x < 0
  · refine ⟨fun _ => ?_, fun _ => .inl h⟩
    rintro ⟨a, h1, h2⟩
    rw [h2] at h
    exact absurd ((nI_ltI (a := a) (b := 0) (by omega) (by omega)).mp h) (by omega)
  · obtain ⟨a, h1, h2⟩ := nn_ex h
    subst h1
    refine ⟨?_, fun w => .inr ?_⟩
    · rintro (z | z)
      · exact absurd z h
      · rintro ⟨c, c1, c2⟩
        have e : a = c := (nI_eq h2 (by omega)).mp c2
        rw [show (1 : Int32) = nI 1 from rfl, nI_sub (by omega), nI_ltI (by omega) h2] at z
        omega
    · have : n ≤ a := Classical.byContradiction fun z => w ⟨a, by omega, rfl⟩
      by_cases n0 : n = 0
      · subst n0
        show (-1 : Int32) < nI a
        apply Int32.lt_iff_toInt_lt.mpr
        show _ < (Int32.ofNat a).toInt
        rw [Int32.toInt_ofNat_of_lt (by omega)]
        have e : (-1 : Int32).toInt = -1 := by decide
        omega
      · rw [show (1 : Int32) = nI 1 from rfl, nI_sub (by omega), nI_ltI (by omega) h2]
        omega
theorem in_bnd2 {x : Int32} {n : Nat} (hn : n ≤ 2000) : (¬ x < 0 ∧ x < nI n) ↔ ∃ a, a < n ∧ x = nI a := by
  refine ⟨fun ⟨h, h'⟩ => ?_, ?_⟩
  · obtain ⟨a, h1, h2⟩ := nn_ex h
    subst h1
    rw [nI_ltI h2 (by omega)] at h'
    exact ⟨a, h', rfl⟩
  · rintro ⟨a, h1, h2⟩
    subst h2
    refine ⟨fun z => ?_, (nI_ltI (by omega) (by omega)).mpr h1⟩
    exact absurd ((nI_ltI (a := a) (b := 0) (by omega) (by omega)).mp z) (by omega)
/-- both objects in one memory, and the law's row of one long behind them -/
def STvR (Z : Nat → Nat) (b m o o' t n kb : Nat) (T : Nat → Nat) (M : gMem) : Prop :=
  b + 178 ≤ m ∧ CIv b o o' n T M ∧ MIv m t n T M ∧ RELv Z kb o m t M ∧ mI M b 3 = mI M m 3
def STv (Z : Nat → Nat) (b m o o' t n kb : Nat) (T : Nat → Nat) (M : gMem) : Prop :=
  (b + 178 ≤ m ∧ m + 60 ≤ mN M ∧ mT M (m + 59) = 21 ∧ mL M (m + 59) = 1) ∧ CIv b o o' n T M ∧ MIv m t n T M ∧ RELv Z kb o m t M ∧ mI M b 3 = mI M m 3
theorem TP_n {p n n' : Nat} {T T' : Nat → Nat} {M X : gMem} (P : TP p n T M (mI M) (mR M)) (h : ∀ j, j < 5 → mT X (p + j) = mT M (p + j) ∧ mL X (p + j) = mL M (p + j)) (hR : mR X p = mR M p) (h2 : mI X p 0 = nI n') (h3 : n' ≤ 2000) (h4 : ∀ q, q < n' → mI X (p + 1) q = sB (T' q) ∧ T' q < 256) : TP p n' T' X (mI X) (mR X) := by
  obtain ⟨⟨a0, a1, a2, a3, a4, a5, a6, a7, a8⟩, ⟨b1, b4, b5, b6⟩, c, d, e⟩ := P
  have t0 : mT X p = mT M p := (h 0 (by omega)).1
  exact ⟨⟨t0.trans a0, (h 1 (by omega)).1.trans a1, (h 1 (by omega)).2.trans a2, (h 2 (by omega)).1.trans a3, (h 2 (by omega)).2.trans a4, (h 3 (by omega)).1.trans a5, (h 3 (by omega)).2.trans a6, (h 4 (by omega)).1.trans a7, (h 4 (by omega)).2.trans a8⟩, ⟨by rw [hR]; exact b1, by rw [hR]; exact b4, by rw [hR]; exact b5, by rw [hR]; exact b6⟩, h2, h3, h4⟩
theorem MP_n {m n n' : Nat} {T T' : Nat → Nat} {M X : gMem} (P : MP m n T M (mI M) (mR M)) (h : ∀ j, j < 7 → mT X (m + j) = mT M (m + j) ∧ mL X (m + j) = mL M (m + j)) (hR : ∀ k, k < 9 → mR X m k = mR M m k) (h2 : mI X m 2 = nI n') (h3 : n' ≤ 2000) (h4 : ∀ q, q < n' → mI X (m + 1) q = nI (T' q) ∧ T' q < 256) : MP m n' T' X (mI X) (mR X) := by
  obtain ⟨⟨a1, a2, a3, a4⟩, ⟨b1, b4, b5, b6, b7, b8⟩, c, d, e⟩ := P
  have t0 : mT X m = mT M m := (h 0 (by omega)).1
  exact ⟨⟨t0.trans a1, fun j j1 j2 => (h j j2).1.trans (a2 j j1 j2), (h 1 (by omega)).2.trans a3, fun j j1 j2 => (h j j2).2.trans (a4 j j1 j2)⟩, ⟨by rw [hR 1 (by omega)]; exact b1, by rw [hR 4 (by omega)]; exact b4, by rw [hR 5 (by omega)]; exact b5, by rw [hR 6 (by omega)]; exact b6, by rw [hR 7 (by omega)]; exact b7, by rw [hR 8 (by omega)]; exact b8⟩, h2, h3, h4⟩
/-- the frame, with new texts on both tapes -/
theorem STvR_n {Z : Nat → Nat} {b m o o' t n n' kb : Nat} {T T' : Nat → Nat} {M X : gMem} (S : STvR Z b m o o' t n kb T M) (hT : ∀ a, a < mN M → mT X a = mT M a ∧ mL X a = mL M a ∧ mR X a = mR M a) (hI : ∀ a, a < mN M → a ≠ m → a ≠ b + 1 → a ≠ b + 2 → a ≠ m + 1 → mI X a = mI M a) (hm : mI X m 3 = mI M m 3) (hp : mI X (b + 1) 0 = nI n' ∧ mI X m 2 = nI n' ∧ n' ≤ 2000) (hb : ∀ q, q < n' → mI X (b + 2) q = sB (T' q) ∧ mI X (m + 1) q = nI (T' q) ∧ T' q < 256) (hN : mN M ≤ mN X) : STvR Z b m o o' t n' kb T' X := by
  obtain ⟨s0, ⟨⟨t0, r0, r1, r2⟩, oo, TPM, ⟨L1, L2, F1, F2, P1, P2⟩, cN⟩, ⟨P, ⟨m11, m13, m14⟩, ⟨LA, LB⟩, ⟨v1, v2, v3, v4⟩⟩, RL, e3⟩ := S
  have hR : ∀ a, a < mN M → mR X a = mR M a := fun a h => (hT a h).2.2
  refine ⟨s0, ⟨⟨(hT b (by omega)).1.trans t0, by rw [hR b (by omega)]; exact r0, by rw [hR b (by omega)]; exact r1, by rw [hR b (by omega)]; exact r2⟩, oo, TP_n TPM (fun j hj => ⟨(hT _ (by omega)).1, (hT _ (by omega)).2.1⟩) (hR _ (by omega)) hp.1 hp.2.2 (fun q hq => ⟨(hb q hq).1, (hb q hq).2.2⟩), ⟨LC_e L1 fun d hd => ?_, LC_e L2 fun d hd => ?_, FRS_e F1 fun d i1 i2 => hI _ (by omega) (by omega) (by omega) (by omega) (by omega), FRS_e F2 fun d i1 i2 => hI _ (by omega) (by omega) (by omega) (by omega) (by omega), PSz_e P1 fun d i1 i2 => hI _ (by omega) (by omega) (by omega) (by omega) (by omega), PSz_e P2 fun d i1 i2 => hI _ (by omega) (by omega) (by omega) (by omega) (by omega)⟩, by omega⟩, ⟨MP_n P (fun j hj => ⟨(hT _ (by omega)).1, (hT _ (by omega)).2.1⟩) (fun k _ => by rw [hR m (by omega)]) hp.2.1 hp.2.2 (fun q hq => (hb q hq).2), ⟨by rw [hR m (by omega)]; exact m11, by rw [hR m (by omega)]; exact m13, by rw [hR m (by omega)]; exact m14⟩, ⟨LS_e2 LA (mN M) (fun c i1 i2 => ⟨(hT c i2).1, (hT c i2).2.1, fun _ => hR c i2⟩) (by rw [hR m (by omega)]) (by omega) (by omega) (by omega) (by omega), LS_e2 LB (mN M) (fun c i1 i2 => ⟨(hT c i2).1, (hT c i2).2.1, fun _ => hR c i2⟩) (by rw [hR m (by omega)]) (by omega) (by omega) (by omega) (by omega)⟩, v1, by omega, by omega, v4⟩, REL_fr RL (fun d hd => hI _ (by omega) (by omega) (by omega) (by omega) (by omega)) (hR _ (by omega)) (fun j hj => hI _ (by omega) (by omega) (by omega) (by omega) (by omega)) (fun j hj => hI _ (by omega) (by omega) (by omega) (by omega) (by omega)), ?_⟩
  · exact ⟨(hT _ (by omega)).1, (hT _ (by omega)).2.1, fun _ => hR _ (by omega)⟩
  · exact ⟨(hT _ (by omega)).1, (hT _ (by omega)).2.1, fun _ => hR _ (by omega)⟩
  · rw [hm, hI b (by omega) (by omega) (by omega) (by omega) (by omega)]; exact e3
theorem STv_n {Z : Nat → Nat} {b m o o' t n n' kb : Nat} {T T' : Nat → Nat} {M X : gMem} (S : STv Z b m o o' t n kb T M) (hT : ∀ a, a < mN M → mT X a = mT M a ∧ mL X a = mL M a ∧ mR X a = mR M a) (hI : ∀ a, a < mN M → a ≠ m → a ≠ b + 1 → a ≠ b + 2 → a ≠ m + 1 → mI X a = mI M a) (hm : mI X m 3 = mI M m 3) (hp : mI X (b + 1) 0 = nI n' ∧ mI X m 2 = nI n' ∧ n' ≤ 2000) (hb : ∀ q, q < n' → mI X (b + 2) q = sB (T' q) ∧ mI X (m + 1) q = nI (T' q) ∧ T' q < 256) (hN : mN M ≤ mN X) : STv Z b m o o' t n' kb T' X := by
  obtain ⟨r1, r2⟩ := STvR_n (⟨S.1.1, S.2⟩ : STvR Z b m o o' t n kb T M) hT hI hm hp hb hN
  have s0 := S.1
  exact ⟨⟨r1, by omega, by rw [(hT _ (by omega)).1]; exact s0.2.2.1, by rw [(hT _ (by omega)).2.1]; exact s0.2.2.2⟩, r2⟩
theorem STv_fr {Z : Nat → Nat} {b m o o' t n kb : Nat} {T : Nat → Nat} {M X : gMem} (S : STv Z b m o o' t n kb T M) (hT : ∀ a, a < mN M → mT X a = mT M a ∧ mL X a = mL M a ∧ mR X a = mR M a ∧ (a ≠ m → mI X a = mI M a)) (hm : ∀ k, k ≠ 0 → mI X m k = mI M m k) (hN : mN M ≤ mN X) : STv Z b m o o' t n kb T X := by
  have h := id S
  obtain ⟨s0, ⟨⟨t0, r0, r1, r2⟩, oo, TPM, -, cN⟩, ⟨P, -, -, ⟨v1, v2, v3, v4⟩⟩, -, -⟩ := h
  refine STv_n S (fun a h => ⟨(hT a h).1, (hT a h).2.1, (hT a h).2.2.1⟩) (fun a h h1 _ _ _ => (hT a h).2.2.2 h1) (hm 3 (by decide)) ⟨by rw [(hT (b + 1) (by omega)).2.2.2 (by omega)]; exact TPM.2.2.1, by rw [hm 2 (by decide)]; exact P.2.2.1, P.2.2.2.1⟩ (fun q hq => ⟨?_, ?_, (P.2.2.2.2 q hq).2⟩) hN
  · rw [(hT (b + 2) (by omega)).2.2.2 (by omega)]; exact (TPM.2.2.2.2 q hq).1
  · rw [(hT (m + 1) (by omega)).2.2.2 (by omega)]; exact (P.2.2.2.2 q hq).1
theorem STv_0 {Z : Nat → Nat} {b m o o' t n kb : Nat} {T : Nat → Nat} {M : gMem} {x : Int32} (S : STv Z b m o o' t n kb T M) : STv Z b m o o' t n kb T (wI M m 0 x) :=
  STv_fr S (fun a _ => ⟨rfl, rfl, rfl, fun h => by funext k; exact wI_o (.inl h)⟩) (fun k h => wI_o (.inr h)) (Nat.le_refl _)
/-- the answers of both, an exception by its kind -/
def AGR (c1 c2 : Nat) (r : Nat ⊕ Int32) (v k : Int32) : Prop := (r = .inr v ∧ k = 0) ∨ (r = .inl c1 ∧ k = 1) ∨ (c2 < 9 ∧ r = .inl c2 ∧ k = 2)
