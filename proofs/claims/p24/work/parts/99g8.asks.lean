/-! ## Pure: the law asks ahead -/
theorem lg_0 (d : Int64) : lg_cmp d d = 0 := (lg_cmp_eq d d).mpr rfl
section LAW
variable {Z pg : Nat → Nat} {b o o' kb len F G np ng : Nat} {T : Nat → Nat} {M : gMem} {B B' : Nat → Nat → Int32} {ms : Nat → List Nat} {kd : Nat → Nat} {N0 N KC KN t x K a10 a11 a12 a15 a18 a24 : Nat} {M0 : gMem} {x8 x9 : Int32} {c : Nat → Nat}
theorem CFr_a {X : gMem} (C : CFr b M X) {a : Nat} (h : b + 178 ≤ a) : mT X a = mT M a ∧ mL X a = mL M a ∧ mI X a = mI M a := ⟨by rw [C.1], by rw [C.2.1], (C.2.2.2.2 a (.inr h)).1⟩
set_option maxRecDepth 50000 in
theorem w_386e (S : OB Z pg b o o' kb len F G np ng T B M) (I : INV B kb G np ms) (R : ARo b N a12 np 7 (pvA B) M) (R10 : ARo b N a10 F 10 (fvA B) M) (R11 : ARo b N a11 G 9 (gvA B) M) (hNm : N ≤ mN M) (hN0 : N0 ≤ N) (Q : SHR b N0 x np K ms kd M) (hFW : FW b N0 M0 M) (hK : KC ≤ 600086 ∧ KN ≤ 7301442) (hkb : kb < 2 ^ 30) {kc kn who : Nat} {x15 : Option Nat} (hk : kc + 803 ≤ KC ∧ kn + 4780 ≤ KN) (hw : who < F) (hG1 : 0 < G) (hm : ∀ p, p < np → (ms p).length ≤ 8 ∧ ∀ k, k < (ms p).length → (ms p).getD k 0 < F) (hr : np = 0 → (∀ j, j < K → ¬ (kd j = 3 ∨ kd j = 7)) → ∀ i, i < len → ¬ gSw (pg i) = 7) : RND Z pg b o o' (kb + 792) len F G np ng T ms N0 KC KN t M0 (lp_L_law_386 Z M kc kn (some x) (some b) (nI F) (nI G) (nI np) (nI t) x8 (nI who) (some a10) (some a11) (some a12) (B 0 0) (cvA B F G 0 6) x15 (nI F)) := by
  obtain ⟨W, D, V⟩ := ob_W S
  have hF : F ≤ 8 := W.2.2.2.1
  have hG : G ≤ 8 := W.2.1
  have tb := (ob_b S).2
  have hbN := (ob_b S).1
  obtain ⟨X1, d1, S1, C1⟩ := ob_digest S
  have N1 : mN X1 = mN M := C1.2.2.2.1
  obtain ⟨a, ha⟩ : ∃ a, a = mN X1 := ⟨_, rfl⟩
  have hba : b + 178 ≤ a := by omega
  obtain ⟨X2, hX2⟩ : ∃ X2, X2 = nW X1 20 3 := ⟨_, rfl⟩
  have S2 : OB Z pg b o o' kb len F G np ng T B X2 := by rw [hX2]; exact ob_n S1
  have a2 : mT X2 a = 20 ∧ mL X2 a = 3 ∧ mN X2 = a + 1 := by rw [hX2, ha]; exact ⟨up1_e _ _ _, up1_e _ _ _, rfl⟩
  have F2 : FW b N M X2 := by rw [hX2]; exact FW_t (FW_c C1) (FW_n (by omega))
  obtain ⟨X3, d3, S3, C3⟩ := ob_foresee S2 (c := 0) (by omega)
  obtain ⟨X4, hX4⟩ : ∃ X4, X4 = wI X3 a 0 (frV (tideA pg len np ng F G B) F G 0) := ⟨_, rfl⟩
  have S4 : OB Z pg b o o' kb len F G np ng T B X4 := by rw [hX4]; exact ob_I S3 hba
  obtain ⟨X5, d5, S5, C5⟩ := ob_foresee S4 (c := 1) (by omega)
  obtain ⟨X6, hX6⟩ : ∃ X6, X6 = wI X5 a 1 (frV (tideA pg len np ng F G B) F G 1) := ⟨_, rfl⟩
  have S6 : OB Z pg b o o' kb len F G np ng T B X6 := by rw [hX6]; exact ob_I S5 hba
  obtain ⟨X7, d7, S7, C7⟩ := ob_foresee S6 (c := 2) (by omega)
  obtain ⟨X8, hX8⟩ : ∃ X8, X8 = wI X7 a 2 (frV (tideA pg len np ng F G B) F G 2) := ⟨_, rfl⟩
  have S8 : OB Z pg b o o' kb len F G np ng T B X8 := by rw [hX8]; exact ob_I S7 hba
  obtain ⟨bl1, hg0⟩ := l_below (M := X8) (v := x8 >>> ((4 : Int32) &&& 31)) (n := G) hG1 (by omega)
  generalize blw (x8 >>> ((4 : Int32) &&& 31)) G = g0 at bl1 hg0
  obtain ⟨X9, d9, S9, C9⟩ := ob_empty S8 hg0
  obtain ⟨em, hem⟩ : ∃ em, em = emV (fun j => sum5 (tidesA pg len np ng F G B j (19 + 2 * g0)) 5) 101 0 := ⟨_, rfl⟩
  rw [← hem] at d9
  obtain ⟨r, X10, d10, S10, C10, hr0⟩ := ob_pays S9 hw
  obtain ⟨bm1, hk0⟩ := l_below (M := X10) (v := x8 >>> ((6 : Int32) &&& 31)) (n := 10) (by decide) (by decide)
  generalize blw (x8 >>> ((6 : Int32) &&& 31)) 10 = k0 at bm1 hk0
  obtain ⟨e, X11, d11, S11, C11, e1, e5⟩ := ob_advise S10 hw (k := 1 + k0) (by omega) (by omega)
  obtain ⟨X12, d12, S12, C12⟩ := ob_digest S11
  -- the three that are foreseen
  have t3 := CFr_a C3 hba
  have t5 := CFr_a C5 hba
  have t7 := CFr_a C7 hba
  have t9 := CFr_a C9 hba
  have t10 := CFr_a C10 hba
  have t11 := CFr_a C11 hba
  have t12 := CFr_a C12 hba
  have T4 : mT X4 = mT X3 ∧ mL X4 = mL X3 := by rw [hX4]; exact ⟨rfl, rfl⟩
  have T6 : mT X6 = mT X5 ∧ mL X6 = mL X5 := by rw [hX6]; exact ⟨rfl, rfl⟩
  have T8 : mT X8 = mT X7 ∧ mL X8 = mL X7 := by rw [hX8]; exact ⟨rfl, rfl⟩
  have A3 : mT X3 a = 20 ∧ mL X3 a = 3 := ⟨t3.1.trans a2.1, t3.2.1.trans a2.2.1⟩
  have A5 : mT X5 a = 20 ∧ mL X5 a = 3 := ⟨t5.1.trans (by rw [T4.1]; exact A3.1), t5.2.1.trans (by rw [T4.2]; exact A3.2)⟩
  have A7 : mT X7 a = 20 ∧ mL X7 a = 3 := ⟨t7.1.trans (by rw [T6.1]; exact A5.1), t7.2.1.trans (by rw [T6.2]; exact A5.2)⟩
  have A8 : mT X8 a = 20 ∧ mL X8 a = 3 := ⟨by rw [T8.1]; exact A7.1, by rw [T8.2]; exact A7.2⟩
  have v8 : ∀ c, c < 3 → mI X8 a c = frV (tideA pg len np ng F G B) F G c := fun c hc => by
    rcases (show c = 0 ∨ c = 1 ∨ c = 2 by omega) with y | y | y <;> subst y
    · rw [hX8, wI_o (.inr (by decide)), t7.2.2, hX6, wI_o (.inr (by decide)), t5.2.2, hX4, wI_e]
    · rw [hX8, wI_o (.inr (by decide)), t7.2.2, hX6, wI_e]
    · rw [hX8, wI_e]
  have R18 : RWo b (a + 1) a 3 (fun c => frV (tideA pg len np ng F G B) F G c) X12 := ⟨t12.1.trans (t11.1.trans (t10.1.trans (t9.1.trans A8.1))), t12.2.1.trans (t11.2.1.trans (t10.2.1.trans (t9.2.1.trans A8.2))), .inr hba, Nat.lt_succ_self _, fun c hc => by rw [t12.2.2, t11.2.2, t10.2.2, t9.2.2]; exact v8 c hc⟩
  have F8 : FW b N X2 X8 := by
    rw [hX8]
    refine FW_t ?_ (FW_I (by omega))
    refine FW_t ?_ (FW_c C7)
    rw [hX6]
    refine FW_t ?_ (FW_I (by omega))
    refine FW_t ?_ (FW_c C5)
    rw [hX4]
    exact FW_t (FW_c C3) (FW_I (by omega))
  have F12 : FW b N M X12 := FW_t F2 (FW_t F8 (FW_t (FW_c C9) (FW_t (FW_c C10) (FW_t (FW_c C11) (FW_c C12)))))
  have N12 : a + 1 ≤ mN X12 := by
    have h1 : mN X12 = mN X8 := by rw [C12.2.2.2.1, C11.2.2.2.1, C10.2.2.2.1, C9.2.2.2.1]
    have h2 := F8.2
    omega
  have W561 := w_561 (t := t) (N := a + 1) (kc := kc + 0 + 1 + 2 + 2 + 2 + 0 + 1 + 2 + 0 + 2 + 0) (kn := kn + 0 + 3 + 12 + 12 + 12 + 0 + 6 + 12 + 0 + 12 + 0) (a10 := a10) (a11 := a11) (a12 := a12) (r := r) S12 I (ARo_N (ARo_f R F12 (Nat.le_refl _)) (by omega)) (ARo_N (ARo_f R10 F12 (Nat.le_refl _)) (by omega)) (ARo_N (ARo_f R11 F12 (Nat.le_refl _)) (by omega)) R18 N12 (by omega) (SHR_f Q F12 hN0) (FW_t hFW (FW_lo F12 hN0)) hK hkb ⟨by omega, by omega⟩ hg0 hem hm (fun h1 h2 => hr0 h1 (hr h1 h2))
  have key : lp_L_law_386 Z M kc kn (some x) (some b) (nI F) (nI G) (nI np) (nI t) x8 (nI who) (some a10) (some a11) (some a12) (B 0 0) (cvA B F G 0 6) x15 (nI F) = b_L_law_561 Z X12 (kc + 0 + 1 + 2 + 2 + 2 + 0 + 1 + 2 + 0 + 2 + 0) (kn + 0 + 3 + 12 + 12 + 12 + 0 + 6 + 12 + 0 + 12 + 0) (some x) (some b) (nI F) (nI G) (nI np) (nI t) (some a10) (some a11) (some a12) (B 0 0) (cvA B F G 0 6) (some a) (nI g0) em r (if em = 0 then 1 else 0) := by
    unfold lp_L_law_386
    refine lp_oI ?_
    show bb_L_law_386 Z M kc kn (some x) (some b) (nI F) (nI G) (nI np) (nI t) x8 (nI who) (some a10) (some a11) (some a12) (B 0 0) (cvA B F G 0 6) x15 (nI F) = _
    have i3 : ∀ c, c < 3 → inb (nI c) 3 := fun c hc => (inbN (by omega)).mpr hc
    have d3' : f_X11_foresee Z X2 b (1 : Int32) (0 : Int32) = some (.inr (frV (tideA pg len np ng F G B) F G 0), X3) := d3
    have d5' : f_X11_foresee Z X4 b (1 : Int32) (1 : Int32) = some (.inr (frV (tideA pg len np ng F G B) F G 1), X5) := d5
    have d7' : f_X11_foresee Z X6 b (1 : Int32) (2 : Int32) = some (.inr (frV (tideA pg len np ng F G B) F G 2), X7) := d7
    have d10' : f_X11_pays Z X9 b (nI who) (1 : Int32) = some (.inr r, X10) := d10
    have d11' : f_X11_advise Z X10 b (nI who) ((1 : Int32) + nI k0) = some (.inr (nI e), X11) := by rw [show (1 : Int32) + nI k0 = nI (1 + k0) from nI_add 1 k0]; exact d11
    have bm1' : f_L_below X10 (x8 >>> ((6 : Int32) &&& 31)) (10 : Int32) = some (nI k0, X10) := bm1
    have h2' : nW X1 20 ((3 : Int32)).toNatClampNeg = X2 := hX2.symm
    have h4' : wI X3 a ((0 : Int32)).toNatClampNeg (frV (tideA pg len np ng F G B) F G 0) = X4 := hX4.symm
    have h6' : wI X5 a ((1 : Int32)).toNatClampNeg (frV (tideA pg len np ng F G B) F G 1) = X6 := hX6.symm
    have h8' : wI X7 a ((2 : Int32)).toNatClampNeg (frV (tideA pg len np ng F G B) F G 2) = X8 := hX8.symm
    have n1 : ¬ nI e < (1 : Int32) := fun z => by have := (nI_ltI (b := 1) (by omega) (by omega)).mp z; omega
    have n5 : ¬ (5 : Int32) < nI e := fun z => by have := (nI_ltI (a := 5) (by omega) (by omega)).mp z; omega
    unfold bb_L_law_386
    rw [if_pos ((nI_leI (by omega) (by omega)).mpr (Nat.le_refl _)), dr_S, ck_t tb, ck_t (by omega), bd_s d1, ck_t (by omega), lw_S, h2', ← ha, ck_t (ob_b S2).2, ck_t (by omega), bx_s d3', ck_t A3.1, ck_t (show inb (0 : Int32) (mL X3 a) by rw [A3.2]; exact i3 0 (by omega)), lw_S, h4', ck_t (ob_b S4).2, ck_t (by omega), bx_s d5', ck_t A5.1, ck_t (show inb (1 : Int32) (mL X5 a) by rw [A5.2]; exact i3 1 (by omega)), lw_S, h6', ck_t (ob_b S6).2, ck_t (by omega), bx_s d7', ck_t A7.1, ck_t (show inb (2 : Int32) (mL X7 a) by rw [A7.2]; exact i3 2 (by omega)), lw_S, h8', ck_t (by omega), bl1, bd_S, ck_t (ob_b S8).2, ck_t (by omega), bx_s d9, ck_t (ob_b S9).2, ck_t (by omega), bx_s d10', ck_t (by omega), bm1', bd_S, ck_t (ob_b S10).2, ck_t (by omega), bx_s d11', ck_t (ob_b S11).2, ck_t (by omega), bd_s d12, lg_0, if_pos rfl, if_neg n1, if_neg n5]
    by_cases z : em = 0
    · rw [if_pos z, if_pos z]
    · rw [if_neg z, if_neg z]
  rw [key]
  exact W561
end LAW
