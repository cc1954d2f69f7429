/-! ## Pure: both are taught: the class -/
def PSz (o : Nat) (M : gMem) : Prop := ∀ q, q < 6 → ∃ c, c ≤ 8 ∧ mI M (o + (74 + 2 * q)) 3 = nI c
/-- the class's object at b -/
def CIv (b o o' n : Nat) (T : Nat → Nat) (M : gMem) : Prop :=
  (mT M b = 10 ∧ mR M b 0 = some (b + 1) ∧ mR M b 1 = some o ∧ mR M b 2 = some o') ∧ ((o = b + 6 ∧ o' = b + 92) ∨ (o = b + 92 ∧ o' = b + 6)) ∧ TP (b + 1) n T M (mI M) (mR M) ∧ (LC o M ∧ LC o' M ∧ FRS o M ∧ FRS o' M ∧ PSz o M ∧ PSz o' M) ∧ b + 178 ≤ mN M
theorem C_rd_ex {Z g ps vs : Nat → Nat} {K r p o : Nat} {M0 M : gMem} (W : CWd Z g ps vs K r p o M0) (B : CB r p o M) (CF : CI r o M0 (fgM o M)) (h6 : mI M r 6 = nI 0) : ∃ x C1, f_X6_read Z M r = some (x, C1) ∧ CI r o M0 C1 := by
  have CR := C_read W B CF h6
  have ne := (NN_txL W.2.2.2.2.2.2 W.2.2.2.2.2.1 401 0 (Nat.zero_le _) (by have := W.2.2.2.2.2.1; omega)).2
  obtain ⟨hp, ho⟩ := W_ho W
  match txL g 401 0, CR, ne with
  | none, _, ne => exact absurd rfl ne
  | some (none, e), ⟨C1, c1, c2, c3⟩, _ => exact ⟨_, _, c1, CI_wI (CI_wI c2 (.inr (.inr (by omega))) (by unfold hot isX; omega)) (.inr (.inr (by omega))) (by unfold hot isX; omega)⟩
  | some (some es, e), ⟨C1, c1, c2, c3⟩, _ => exact ⟨_, _, c1, c2⟩
/-- behind its reading -/
noncomputable def tcA (b r : Nat) (C1 : gMem) : gMem := wI (wI C1 b 3 (mI C1 r 0)) (b + 1) 0 0
noncomputable def tcB (b o o' : Nat) (X : gMem) : gMem := wR (wR (wI (wI X o' 0 (mI X o 0)) o' 1 (mI X o 1)) b 1 (some o')) b 2 (some o)
theorem C_teach {Z : Nat → Nat} {b o o' n : Nat} {T : Nat → Nat} {M : gMem} (V : CIv b o o' n T M) (hZ : ∀ a b : Nat, a < 45 → b < 45 → Z a = Z b → a = b) : ∃ S K, f_X10_scan Z M (b + 1) = some ((), S) ∧ K ≤ 400 ∧ (∀ i, i < K → tok T n i < 42) ∧ 42 ≤ tok T n K ∧ mN S = mN M ∧ (mT S = mT M ∧ mL S = mL M) ∧ (∀ a k, a ≠ b + 4 → (a ≠ b + 1 ∨ k ≠ 5) → mI S a k = mI M a k) ∧ (∀ a, a ≠ b + 3 → mR S a = mR M a) ∧ (∀ a, a ≠ b + 5 → mJ S a = mJ M a) ∧ CWd Z (tok T n) (pos T n) (vsT T n) K (mN M) (b + 1) o' (rdM (mN M) (some (b + 1)) (some o') (nW S 6 0)) ∧ CB (mN M) (b + 1) o' (rdM (mN M) (some (b + 1)) (some o') (nW S 6 0)) ∧ CI (mN M) o' (rdM (mN M) (some (b + 1)) (some o') (nW S 6 0)) (fgM o' (rdM (mN M) (some (b + 1)) (some o') (nW S 6 0))) ∧ mI (rdM (mN M) (some (b + 1)) (some o') (nW S 6 0)) (mN M) 6 = nI 0 ∧ mI (rdM (mN M) (some (b + 1)) (some o') (nW S 6 0)) (mN M) 7 = 0 ∧ (∀ x, isX (mN M) x → mI (rdM (mN M) (some (b + 1)) (some o') (nW S 6 0)) x 1 = 0) ∧ mI (rdM (mN M) (some (b + 1)) (some o') (nW S 6 0)) (mN M) 0 = -1 ∧ ∀ er C1, er < 16 → f_X6_read Z (rdM (mN M) (some (b + 1)) (some o') (nW S 6 0)) (mN M) = some (nI er, C1) → CI (mN M) o' (rdM (mN M) (some (b + 1)) (some o') (nW S 6 0)) C1 → f_X11_teach Z M b = some (nI er, if er = 0 then tcB b o o' (tcA b (mN M) C1) else tcA b (mN M) C1) := by
  obtain ⟨⟨t0, r0, r1, r2⟩, oo, TPM, ⟨L1, L2, F1, F2, P1, P2⟩, hN⟩ := V
  obtain ⟨S, K, s1, s2, s3, s4, s5, s6, s7, s8, s9, s10, s11, s12, s13, s14, s15, s16⟩ := C_world TPM L2 F2 P2 (by omega) (by omega) hZ
  refine ⟨S, K, s1, s2, s3, s4, s5, s6, s7, s8, s9, s10, s11, s12, s13, s14, s15, s16, fun er C1 her hrd CC => ?_⟩
  have n0 : mN (nW S 6 0) = mN M + 1 := by rw [← s5]; rfl
  have bT : mT (nW S 6 0) b = 10 := by
    show (if b = mN S then 6 else mT S b) = 10
    rw [if_neg (by omega), s6.1]; exact t0
  have bR : mR (nW S 6 0) b = mR M b := by
    show (if b = mN S then (fun _ => none) else mR S b) = _
    rw [if_neg (by omega), s8 b (by omega)]
  have rT : mT (nW S 6 0) (mN M) = 6 ∧ mN M < mN (nW S 6 0) := ⟨(show (if mN M = mN S then 6 else mT S (mN M)) = 6 from if_pos s5.symm), by omega⟩
  obtain ⟨f1, f2, f3, f4, f5⟩ := rd_f (r := mN M) (x1 := some (b + 1)) (x2 := some o') n0
  obtain ⟨⟨c1, c2, c3⟩, cR, cI, cJ, cS⟩ := CC
  have FT : ∀ a, a < mN M → mT C1 a = mT M a := fun a h => by
    rw [c1, (f2 a (by omega)).1]
    show (if a = mN S then 6 else mT S a) = _
    rw [if_neg (by omega), s6.1]
  have FRb : ∀ a, a < mN M → a ≠ o' + 6 → a ≠ b + 3 → mR C1 a = mR M a := fun a h h2 h3 => by
    rw [cR a h2, ((f2 a (by omega)).2.2.2 h).2]
    show (if a = mN S then (fun _ => none) else mR S a) = _
    rw [if_neg (by omega), s8 a h3]
  have r6 : mT C1 (mN M) = 6 := by rw [c1]; exact s11.1.1
  have b10 : mT C1 b = 10 := by rw [FT b (by omega)]; exact t0
  have bRR : mR C1 b = mR M b := FRb b (by omega) (by omega) (by omega)
  have p9 : mT C1 (b + 1) = 9 := by rw [FT (b + 1) (by omega)]; exact TPM.1.1
  have o7 : mT C1 o = 7 ∧ mT C1 o' = 7 := by
    rw [FT o (by omega), FT o' (by omega)]
    exact ⟨cT0 (sg := mI M) L1, cT0 (sg := mI M) L2⟩
  unfold f_X11_teach b_X11_teach_0 b_X11_teach_94
  rw [ck_t t0, r0, dr_S, ck_t TPM.1.1, s1, bd_S, lw_S, ck_t bT, bR, r0, r2, s5, X6_i rT, bd_S, ck_t s11.1.1, hrd, bd_S, ck_t r6, ck_t b10, lw_S, show mR (wI C1 b 3 (mI C1 (mN M) 0)) b 0 = some (b + 1) by show mR C1 b 0 = _; rw [bRR]; exact r0, dr_S, ck_t (show mT (wI C1 b 3 (mI C1 (mN M) 0)) (b + 1) = 9 from p9), lw_S]
  show (if nI er = 0 then _ else some (nI er, tcA b (mN M) C1)) = _
  by_cases e0 : er = 0
  · have q1 : mR (tcA b (mN M) C1) b 1 = some o := by show mR C1 b 1 = _; rw [bRR]; exact r1
    have q2 : mR (tcA b (mN M) C1) b 2 = some o' := by show mR C1 b 2 = _; rw [bRR]; exact r2
    rw [if_pos e0, if_pos (show nI er = 0 by rw [e0]; rfl)]
    show (dr (mR (tcA b (mN M) C1) b 1) fun a21 => ck (mT (tcA b (mN M) C1) a21 = 7) <| dr ((mR (tcA b (mN M) C1) b 2)) fun a23 => ck (mT (tcA b (mN M) C1) a23 = 7) <| lw (wI (tcA b (mN M) C1) a23 0 ((mI (tcA b (mN M) C1) a21 0))) fun M25 => _) = _
    rw [q1, dr_S, ck_t (show mT (tcA b (mN M) C1) o = 7 from o7.1), q2, dr_S, ck_t (show mT (tcA b (mN M) C1) o' = 7 from o7.2), lw_S]
    generalize hX : tcA b (mN M) C1 = X at *
    have xt : mT X = mT C1 := by rw [← hX]; rfl
    rw [show mR (wI X o' 0 (mI X o 0)) b 1 = some o from q1, dr_S, ck_t (show mT (wI X o' 0 (mI X o 0)) o = 7 by show mT X o = 7; rw [xt]; exact o7.1), show mR (wI X o' 0 (mI X o 0)) b 2 = some o' from q2, dr_S, ck_t (show mT (wI X o' 0 (mI X o 0)) o' = 7 by show mT X o' = 7; rw [xt]; exact o7.2), lw_S, wI_o (a := o') (b := o) (.inl (by omega)), lw_S, lw_S]
    unfold tcB
    rw [show mR (wI (wI X o' 0 (mI X o 0)) o' 1 (mI X o 1)) b 2 = some o' from q2, show mR (wI (wI X o' 0 (mI X o 0)) o' 1 (mI X o 1)) b 1 = some o from q1]
  · rw [if_neg e0, if_neg (show ¬ nI er = 0 from nI_ne (b := 0) e0 (by omega) (by omega))]

