/-! ## Pure: the law's loop of feeding, and teach -/
/-- what the law's feeding keeps: the five ints at v, the text's String at s, the rest of the memory -/
def FD (M0 : gMem) (b v s w : Nat) (t : List Nat) (M : gMem) : Prop := STR s w t M ∧ (mT M v = 20 ∧ mL M v = 5) ∧ mN M = mN M0 ∧ (mT M = mT M0 ∧ mL M = mL M0 ∧ mJ M = mJ M0 ∧ mR M = mR M0) ∧ ∀ a, a ≠ b + 1 → a ≠ b + 2 → a ≠ v → mI M a = mI M0 a
theorem FD_I {M0 M : gMem} {b v s w k : Nat} {t : List Nat} {x : Int32} (h : FD M0 b v s w t M) (h1 : s ≠ v ∧ w ≠ v) : FD M0 b v s w t (wI M v k x) := by
  obtain ⟨Q, hv, hN, hs, hI⟩ := h
  exact ⟨STR_n Q ⟨rfl, rfl, (SM5_I h1.1).2.2.1⟩ ⟨rfl, rfl, (SM5_I h1.2).2.2.1⟩ (Nat.le_refl _), hv, hN, hs, fun a a1 a2 a3 => ((SM5_I (M := M) (j := k) (v := x) a3).2.2.1).trans (hI a a1 a2 a3)⟩
theorem td_step {Z : Nat → Nat} {M0 M : gMem} {b v s w at0 k kc kn : Nat} {t : List Nat} (h : FD M0 b v s w t M) (h1 : s ≠ v ∧ w ≠ v) (hb : ∀ c ∈ t, c < 128) (hk : k < 20) (hq : kc ≤ 300 ∧ kn ≤ 3000) (hat : at0 < 2000) : bb_L_taught_23 Z M kc kn (some b) (some s) (some v) (nI at0) (nI k) = some (.inl (wI M v (k / 4) ((mI M v (k / 4) <<< ((8 : Int32) &&& 31)) ||| nI (if at0 + k < t.length then txF t (at0 + k) else 32)), kc, kn, nI (k + 1))) := by
  obtain ⟨Q, ⟨hv1, hv2⟩, hN, hs, hI⟩ := h
  have t2 : t.length ≤ 2400 := Q.2.2.2.1
  have q20 : ¬ (20 : Int32) ≤ nI k := fun z => by have := (nI_leI (a := 20) (by omega) (by omega)).mp z; omega
  unfold bb_L_taught_23 b_L_taught_68
  rw [if_neg q20, dr_S, ck_t hv1, dv_4 k hk, ck_t (by rw [hv2]; exact (inbN (by omega)).mpr (by omega)), dr_S, ck_t Q.1.1, ck_t ⟨by omega, by omega⟩, s_len Q, bd_S, nI_add, ck_t Q.1.1, ck_t (show kc + 0 + 0 ≤ 300 ∧ kn + 0 + 0 ≤ 3000 by omega)]
  by_cases z : at0 + k < t.length
  · rw [if_neg (fun y => by have := (nI_leI (by omega) (by omega)).mp y; omega), s_chr Q z hb, bd_S, dr_S, ck_t hv1, ck_t (by rw [hv2]; exact (inbN (by omega)).mpr (by omega)), lw_S, if_pos z, nI_clamp (by omega), nI_1]
    rfl
  · rw [if_pos ((nI_leI (by omega) (by omega)).mpr (by omega)), dr_S, ck_t hv1, ck_t (by rw [hv2]; exact (inbN (by omega)).mpr (by omega)), lw_S, if_neg z, nI_clamp (by omega), nI_1]
    rfl
def Tpd (t : List Nat) : Nat → Nat := fun q => if q < t.length then txF t q else 32
theorem Tpd_b {t : List Nat} (hb : ∀ c ∈ t, c < 128) (q : Nat) : Tpd t q < 256 := by
  unfold Tpd
  by_cases z : q < t.length
  · rw [if_pos z]
    have := hb (txF t q) (by unfold txF; rw [List.getD_eq_getElem?_getD, List.getElem?_eq_getElem z]; exact List.getElem_mem z)
    omega
  · rw [if_neg z]; decide
theorem td_round {Z : Nat → Nat} {M0 M : gMem} {b o o' v s w n kc kn : Nat} {t : List Nat} (h : FD M0 b v s w t M) (C : CIv b o o' n (Tpd t) M) (hv : b + 178 ≤ v) (h1 : s ≠ v ∧ w ≠ v) (hsb : (s < b ∨ b + 178 ≤ s) ∧ (w < b ∨ b + 178 ≤ w)) (hb : ∀ c ∈ t, c < 128) (hn : n < t.length) (hl : t.length ≤ 1100) (hq : kc + 1 ≤ 300 ∧ kn + 6 ≤ 3000) : ∃ M', bb_L_taught_12 Z M kc kn (some b) (some s) (some v) (nI n) = some (.inl (M', kc + 1, kn + 6, nI (n + 20))) ∧ FD M0 b v s w t M' ∧ CIv b o o' (n + 20) (Tpd t) M' := by
  obtain ⟨q, ⟨M', rfl, F', V', C'⟩, hlp⟩ := lp_ex (f := fun (q : gMem × Nat × Nat × Int32) => bb_L_taught_23 Z q.1 q.2.1 q.2.2.1 (some b) (some s) (some v) (nI n) q.2.2.2)
    (fun k q => ∃ M', q = (M', kc, kn, nI k) ∧ FD M0 b v s w t M' ∧ FV M' v (Tpd t) n k ∧ CIv b o o' n (Tpd t) M') 20 (fun k q hk hq2 => by
      obtain ⟨M', rfl, F', V', C'⟩ := hq2
      refine ⟨_, td_step (kc := kc) (kn := kn) F' h1 hb hk (by omega) (by omega), _, rfl, FD_I F' h1, FV_s (T := Tpd t) V' hk (Tpd_b hb _), ?_⟩
      exact CIv_g C' (fun a _ => ⟨rfl, rfl, rfl⟩) (fun a i1 i2 => (SM5_I (by omega)).2.2.1) (by rw [wI_o (.inl (by omega))]; exact C'.2.2.1.2.2.1) C'.2.2.1.2.2.2.1 (fun q hq => by
        have := C'.2.2.1.2.2.2.2 q hq
        exact ⟨by rw [wI_o (.inl (by omega))]; exact this.1, this.2⟩) (Nat.le_refl _)) 20 0 (M, kc, kn, nI 0) (by omega) ⟨M, rfl, h, fun i e _ _ h => absurd h (Nat.not_lt_zero _), C⟩
  obtain ⟨Q, ⟨hv1, hv2⟩, hN, hs, hI⟩ := id F'
  have fd := c_feed (ws := mI M' v) C' (by omega) (fun i k hi hk => by
    have := V' i k hi hk (by omega)
    rw [show 8 * (min 4 (20 - 4 * i) - 1 - k) = 24 - 8 * k by omega] at this
    exact this.symm)
  obtain ⟨C2, e1, e2, e3, e4, e5⟩ := c_fed C' (by omega) (Tpd_b hb)
  have Q0 := h.1
  have hQ0 := Q0.2.2.2.1
  refine ⟨_, ?_, ⟨STR_n Q ⟨by rw [e1], by rw [e3], e5 s (by omega) (by omega)⟩ ⟨by rw [e1], by rw [e2], e5 w (by omega) (by omega)⟩ (by rw [e4]; exact Nat.le_refl _), by rw [e1, e2]; exact ⟨hv1, hv2⟩, e4.trans hN, ⟨e1.trans hs.1, e2.trans hs.2.1, (fdC_J 20).trans hs.2.2.1, e3.trans hs.2.2.2⟩, fun a a1 a2 a3 => (e5 a a1 a2).trans (hI a a1 a2 a3)⟩, C2⟩
  unfold bb_L_taught_12
  rw [dr_S, ck_t Q0.1.1, ck_t ⟨by omega, by omega⟩, s_len Q0, bd_S, if_neg (fun y => by have := (nI_leI (by omega) (by omega)).mp y; omega)]
  unfold lp_L_taught_23
  have hlp' : lp (fun (q : gMem × Nat × Nat × Int32) => bb_L_taught_23 Z q.1 q.2.1 q.2.2.1 (some b) (some s) (some v) (nI n) q.2.2.2) (M, kc + 0, kn + 0, (0 : Int32)) = _ := hlp
  rw [hlp']
  refine lp_oI ?_
  show bb_L_taught_23 Z M' kc kn (some b) (some s) (some v) (nI n) (nI 20) = _
  unfold bb_L_taught_23
  have ib : ∀ i, i < 5 → inb (nI i) (mL M' v) := fun i hi => (inbN (by omega)).mpr (by rw [hv2]; exact hi)
  have t10 : mT M' b = 10 := C'.1.1
  rw [if_pos (by decide), dr_S, ck_t hv1, ck_t (show inb (0 : Int32) (mL M' v) from ib 0 (by omega)), ck_t (show inb (1 : Int32) (mL M' v) from ib 1 (by omega)), ck_t (show inb (2 : Int32) (mL M' v) from ib 2 (by omega)), ck_t (show inb (3 : Int32) (mL M' v) from ib 3 (by omega)), ck_t (show inb (4 : Int32) (mL M' v) from ib 4 (by omega)), dr_S, ck_t t10, ck_t ⟨by omega, by omega⟩]
  have fd' : f_X11_feed M' b (mI M' v ((0 : Int32)).toNatClampNeg) (mI M' v ((1 : Int32)).toNatClampNeg) (mI M' v ((2 : Int32)).toNatClampNeg) (mI M' v ((3 : Int32)).toNatClampNeg) (mI M' v ((4 : Int32)).toNatClampNeg) = _ := fd
  rw [bx_s fd', show nI n + (20 : Int32) = nI (n + 20) from nI_add n 20]
theorem taught_f {Z : Nat → Nat} {M : gMem} {b o o' s w : Nat} {t : List Nat} (CV : ∀ T, CIv b o o' 0 T M) (hZ : ∀ a b : Nat, a < 45 → b < 45 → Z a = Z b → a = b) (Q : STR s w t M) (hs : b + 178 ≤ s) (hl : t.length ≤ 1100)
    {a : List (List (Nat × Nat × List Nat) × List Nat × List (Nat × Nat))} {tv : List (Nat × Nat)} (LS : LNS a t tv) (ha : a.length ≤ 21) (hla : (flI a).length < 400) (wa : wkA ([], [], [], [], 0) tv) {F G np : Nat} (hG : (wkF ([], [], [], [], 0) tv).1.length = G) (hF : (wkF ([], [], [], [], 0) tv).2.1.length = F) (hnp : (wkF ([], [], [], [], 0) tv).2.2.1.length = np) :
    ∃ pg len ng M', f_L_taught Z M (some b) (some s) = some (.inr (nI 0), M') ∧ PSt Z pg b o' o 0 0 len F G np ng (txF t) M' ∧ DSt (cutF 86 o' M') np ∧ TCH o' (wkF ([], [], [], [], 0) tv) M' ∧ ((∀ x ∈ tv, x.1 ≠ 19) → ∀ i, i < len → gSw (pg i) ≠ 7) ∧ mN M' = mN M + 8 ∧ (∀ a, a < mN M → mT M' a = mT M a ∧ mL M' a = mL M a) ∧ ∀ a, a < mN M → (a < b ∨ b + 178 ≤ a) → mI M' a = mI M a ∧ mR M' a = mR M a ∧ mJ M' a = mJ M a := by
  have hb := LNS_b LS
  obtain ⟨sw, wN⟩ := Q.2.2.1
  have cN : b + 178 ≤ mN M := (CV (Tpd t)).2.2.2.2
  obtain ⟨M0, hM0⟩ : ∃ M0, M0 = nW M 20 5 := ⟨_, rfl⟩
  have n0 : mN M0 = mN M + 1 := by rw [hM0]; rfl
  have o0 : ∀ a, a < mN M → mT M0 a = mT M a ∧ mL M0 a = mL M a ∧ mI M0 a = mI M a ∧ mR M0 a = mR M a ∧ mJ M0 a = mJ M a := fun a h => by
    have := SM5_n (M := M) (t := 20) (n := 5) (c := a) (Nat.ne_of_lt h)
    rw [hM0]
    exact ⟨this.1, this.2.1, this.2.2.1, this.2.2.2.1, this.2.2.2.2⟩
  have v0 : mT M0 (mN M) = 20 ∧ mL M0 (mN M) = 5 := by rw [hM0]; exact ⟨up1_e _ _ _, up1_e _ _ _⟩
  have C0 : CIv b o o' 0 (Tpd t) M0 := CIv_g (CV (Tpd t)) (fun a h => ⟨(o0 a (by omega)).1, (o0 a (by omega)).2.1, (o0 a (by omega)).2.2.2.1⟩) (fun a h1 h2 => (o0 a (by omega)).2.2.1) (by rw [(o0 (b + 1) (by omega)).2.2.1]; exact (CV (Tpd t)).2.2.1.2.2.1) (by omega) (fun q hq => absurd hq (Nat.not_lt_zero _)) (by omega)
  obtain ⟨tr, C1⟩ := c_trimN C0 (Nat.le_refl 0)
  obtain ⟨M1, hM1⟩ : ∃ M1, M1 = wI M0 (b + 1) 0 (nI 0) := ⟨_, rfl⟩
  rw [← hM1] at tr C1
  have Q1 : STR s w t M1 := STR_n Q ⟨by rw [hM1]; exact (o0 s (by omega)).1, by rw [hM1]; exact (o0 s (by omega)).2.2.2.1, by rw [hM1]; exact ((SM5_I (by omega)).2.2.1).trans (o0 s (by omega)).2.2.1⟩ ⟨by rw [hM1]; exact (o0 w (by omega)).1, by rw [hM1]; exact (o0 w (by omega)).2.1, by rw [hM1]; exact ((SM5_I (by omega)).2.2.1).trans (o0 w (by omega)).2.2.1⟩ (by rw [hM1]; show mN M ≤ mN M0; omega)
  have F1 : FD M1 b (mN M) s w t M1 := ⟨Q1, by rw [hM1]; exact v0, rfl, ⟨rfl, rfl, rfl, rfl⟩, fun _ _ _ _ => rfl⟩
  obtain ⟨J, hJ⟩ : ∃ J, J = (t.length + 19) / 20 := ⟨_, rfl⟩
  obtain ⟨q, ⟨M2, rfl, F2, C2⟩, hlp⟩ := lp_ex (f := fun (q : gMem × Nat × Nat × Int32) => bb_L_taught_12 Z q.1 q.2.1 q.2.2.1 (some b) (some s) (some (mN M)) q.2.2.2)
    (fun j q => ∃ M', q = (M', 2 + j, 11 + 6 * j, nI (20 * j)) ∧ FD M1 b (mN M) s w t M' ∧ CIv b o o' (20 * j) (Tpd t) M') J (fun j q hj hq2 => by
      obtain ⟨M', rfl, F', C'⟩ := hq2
      obtain ⟨M3, e1, e2, e3⟩ := td_round (Z := Z) (kc := 2 + j) (kn := 11 + 6 * j) F' C' (by omega) ⟨by omega, by omega⟩ ⟨.inr (by omega), .inr (by omega)⟩ hb (by omega) hl ⟨by omega, by omega⟩
      exact ⟨_, e1, M3, by rw [show 2 + j + 1 = 2 + (j + 1) by omega, show 11 + 6 * j + 6 = 11 + 6 * (j + 1) by omega, show 20 * j + 20 = 20 * (j + 1) by omega], e2, by rw [show 20 * (j + 1) = 20 * j + 20 by omega]; exact e3⟩) J 0 (M1, 2, 11, nI 0) (by omega) ⟨M1, rfl, F1, C1⟩
  obtain ⟨Q2, -, hN2, hs2, hI2⟩ := id F2
  obtain ⟨tr2, C3⟩ := c_trimN C2 (show t.length ≤ 20 * J by omega)
  obtain ⟨M3, hM3⟩ : ∃ M3, M3 = wI M2 (b + 1) 0 (nI t.length) := ⟨_, rfl⟩
  rw [← hM3] at tr2 C3
  have C4 : CIv b o o' t.length (txF t) M3 := CIv_g C3 (fun a h => ⟨rfl, rfl, rfl⟩) (fun a _ _ => rfl) C3.2.2.1.2.2.1 (by omega) (fun q hq => by
    have := C3.2.2.1.2.2.2.2 q hq
    unfold Tpd at this
    rw [if_pos hq] at this
    exact this) (Nat.le_refl _)
  have mN1 : mN M1 = mN M + 1 := by rw [hM1]; exact n0
  have mN3 : mN M3 = mN M + 1 := by rw [hM3]; exact hN2.trans mN1
  have o3 : ∀ a, a < mN M → mT M3 a = mT M a ∧ mL M3 a = mL M a ∧ mR M3 a = mR M a ∧ mJ M3 a = mJ M a := fun a h => by
    rw [hM3]
    show mT M2 a = _ ∧ mL M2 a = _ ∧ mR M2 a = _ ∧ mJ M2 a = _
    rw [hs2.1, hs2.2.1, hs2.2.2.1, hs2.2.2.2, hM1]
    exact ⟨(o0 a h).1, (o0 a h).2.1, (o0 a h).2.2.2.1, (o0 a h).2.2.2.2⟩
  have i3 : ∀ a, a < mN M → (a < b ∨ b + 178 ≤ a) → mI M3 a = mI M a := fun a h h2 => by
    rw [hM3]
    refine ((SM5_I (by omega)).2.2.1).trans ((hI2 a (by omega) (by omega) (by omega)).trans ?_)
    rw [hM1]
    exact ((SM5_I (by omega)).2.2.1).trans (o0 a h).2.2.1
  obtain ⟨pg, len, ng, M', e1, e2, e3, e4, e5, e6, e7, e8⟩ := t_teach C4 hZ LS ha hla rfl rfl wa hG hF hnp
  refine ⟨pg, len, ng, M', ?_, e2, e3, e4, e5, by omega, fun a h => ⟨(e7 a (by omega)).1.trans (o3 a h).1, (e7 a (by omega)).2.trans (o3 a h).2.1⟩, fun a h h2 => ?_⟩
  · unfold f_L_taught b_L_taught_0
    rw [ck_t ⟨by decide, by decide⟩, lw_S]
    have hM0' : nW M 20 ((5 : Int32)).toNatClampNeg = M0 := hM0.symm
    have t10 : mT M0 b = 10 := C0.1.1
    rw [hM0', dr_S, ck_t t10, ck_t ⟨by decide, by decide⟩]
    have tr' : f_X11_trim M0 b (0 : Int32) = some (.inr (nI 0), M1) := tr
    rw [bx_s tr']
    unfold lp_L_taught_12
    have hlp' : lp (fun (q : gMem × Nat × Nat × Int32) => bb_L_taught_12 Z q.1 q.2.1 q.2.2.1 (some b) (some s) (some (mN M)) q.2.2.2) (M1, 0 + 1 + 1, 0 + 5 + 6, (0 : Int32)) = _ := hlp
    rw [hlp']
    refine lp_oI ?_
    show bb_L_taught_12 Z M2 (2 + J) (11 + 6 * J) (some b) (some s) (some (mN M)) (nI (20 * J)) = _
    unfold bb_L_taught_12
    have tb2 : mT M2 b = 10 := C2.1.1
    have tb3 : mT M3 b = 10 := C4.1.1
    rw [dr_S, ck_t Q2.1.1, ck_t ⟨by omega, by omega⟩, s_len Q2, bd_S, if_pos ((nI_leI (by omega) (by omega)).mpr (by omega)), ck_t Q2.1.1, ck_t ⟨by omega, by omega⟩, s_len Q2, bd_S, dr_S, ck_t tb2, ck_t ⟨by omega, by omega⟩, bx_s tr2, ck_t tb3, ck_t ⟨by omega, by omega⟩, bd_s e1, ck_t ⟨by omega, by omega⟩]
  · obtain ⟨x1, x2, x3⟩ := e8 a (by omega) h2
    exact ⟨x1.trans (i3 a h h2), x2.trans (o3 a h).2.2.1, x3.trans (o3 a h).2.2.2⟩
