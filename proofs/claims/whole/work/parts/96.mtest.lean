/-! ## Pure: the reference's tests -/
theorem mQk_tk {m t d k : Nat} {M0 M : gMem} (ht : m + 7 ≤ t) (Q : mQk m t d M0 M k) : mQk m t d M0 (tk' m (k + 1) M) (k + 1) := by
  obtain ⟨C, h9, h10, ⟨L, l1, l2⟩, ⟨n, n1, n2⟩⟩ := Q
  refine ⟨MI_w C (.inl (by omega)) ht, wI_e _ _ _ _, ?_, ⟨L, by omega, ?_⟩, ⟨n, by omega, ?_⟩⟩
  · unfold tk'; rw [wI_o (.inr (by omega))]; exact h10
  · unfold tk'; rw [wI_o (.inl (by omega))]; exact l2
  · unfold tk'; rw [wI_o (.inl (by omega))]; exact n2
theorem si2_tk {m k : Nat} {A : gMem} : si2 m (tk' m k A) A := fun a b => by
  unfold td' tk'
  rw [wI_2]
theorem WP_P {g : Nat → Nat} {n j k d : Nat} : WP k 0 0 (Px g n j k d) := by
  have := WP_Px (g := g) n j k d
  by_cases c : j = 3
  · rw [if_pos c] at this; exact this
  · rw [if_neg c] at this; exact this
theorem M_isTest {g vs : Nat → Nat} {K m t : Nat} {M0 : gMem} (W : MWd g K m t M0) {n : Nat} {F : Nat → gMem → Nat → Option (Int32 × gMem)} (IH : ∀ j k d M, j < 7 → j ≠ 3 → mQk m t d M0 M k → k ≤ K → d ≤ 8 → MRl vs m t d M0 M (Px g n j k d) (F (if j < 3 then j else j - 1) M m)) {k d : Nat} {M : gMem} (Q : mQk m t d M0 M k) (hk : k ≤ K) (hd : d ≤ 8) : MRl vs m t d M0 M (sq (Px g n 1 k d) (lpS g 22 22 (fun k => Px g n 1 k d) 401)) (fr_X14_isTest F M m) := by
  have ht := W.1.2.2
  have hK := W.2.2.2.1
  have H := W.2.2.2.2
  have t13 : ∀ X, MI m t M0 X → mT X m = 13 := fun X CX => (MI_B W.1 CX).1.1
  have fp := fun e he => (FP_Px H n 1 e d he).1 (by decide)
  unfold fr_X14_isTest b_X14_isTest_0 lp_X14_isTest_9
  rw [ck_t (t13 _ Q.1)]
  refine MR_sq ht (IH 1 k d M (by decide) (by decide) Q hk hd) (fun es M1 e he C1 h9 h10 hs => ?_)
  have fe := FP_e (fp k hk) he
  have wp := WP_P es e he
  obtain ⟨Q1, -⟩ := MQ_nx (vs := vs) (j := 0) ht Q (by omega) (by omega) (by omega) (AC_Px W.2.2.1 n 1 k d es e he) C1 h9 h10 hs
  refine MR_lp (a := 22) (b := 22) (BB := fun M => bb_X14_isTest_9 F M m) W (by decide) (by decide) fp (fun e => WP_P) (fun e => AC_Px W.2.2.1 n 1 e d) (fun M k Q hk hg => ?_) (fun M k Q hk hg => ?_) 401 e M1 Q1 fe.1
  · have hg' : g k = 22 := hg.elim id id
    have hk1 := H k hk (by omega)
    have mi := ((mk_i (g k) (W.2.2.1 k)).2.1 22 (by decide) (by decide)).mpr hg'
    have ih := IH 1 (k + 1) d (tk' m (k + 1) M) (by decide) (by decide) (mQk_tk ht Q) hk1 hd
    have fp1 := fp (k + 1) hk1
    have wp1 := WP_P (g := g) (n := n) (j := 1) (k := k + 1) (d := d)
    have ac1 := AC_Px W.2.2.1 n 1 (k + 1) d
    show match Px g n 1 (k + 1) d with
      | none => True
      | some (none, e) => ∃ M1, bb_X14_isTest_9 F M m = some (.inr ((0 : Int32), M1)) ∧ MI m t M0 M1 ∧ mI M1 m 9 = nI e
      | some (some es, e) => ∃ M1, bb_X14_isTest_9 F M m = some (.inl (puM t (nI (opc (g k))) M1)) ∧ MI m t M0 M1 ∧ mI M1 m 9 = nI e ∧ mI M1 m 10 = nI d ∧ si2 m M1 (mrn vs m t es M)
    unfold bb_X14_isTest_9
    rw [ck_t (t13 _ Q.1), show (22 : Int32) = nI 22 from rfl, M_eat W Q.1 Q.2.1 hk (by decide), if_pos mi, bd_S, if_neg (by decide), ck_t (t13 _ (mQk_tk ht Q).1), hg']
    match Px g n 1 (k + 1) d, ih, fp1, wp1, ac1 with
    | none, _, _, _, _ => trivial
    | some (none, e), ⟨M2, k1, k2, k3⟩, _, _, _ =>
      have k1 : F 1 (tk' m (k + 1) M) m = some ((0 : Int32), M2) := k1
      exact ⟨M2, by rw [k1, bd_S, if_pos rfl]; rfl, k2, k3⟩
    | some (some es, e), ⟨M2, k1, k2, k3, k4, k5⟩, fp1, wp1, ac1 =>
      have k1 : F 1 (tk' m (k + 1) M) m = some ((1 : Int32), M2) := k1
      have w1 := wp1 es e rfl
      have hs2 := si2_tr k5 (si2_rn ht es si2_tk)
      obtain ⟨-, L, l1, l2⟩ := MQ_nx (vs := vs) (j := 2) ht Q (by have := fp1.1; omega) (by omega) (by omega) (ac1 es e rfl) k2 k3 k4 hs2
      exact ⟨M2, by rw [k1, bd_S, if_neg (by decide), ck_t (t13 _ k2), M_put W k2 l2 (by have := fp1.1; omega), bd_S]; rfl, k2, k3, k4, hs2⟩
  · have mi : ¬ mk (g k) = 22 := fun z => hg (.inl (((mk_i (g k) (W.2.2.1 k)).2.1 22 (by decide) (by decide)).mp z))
    show bb_X14_isTest_9 F M m = _
    unfold bb_X14_isTest_9
    rw [ck_t (t13 _ Q.1), show (22 : Int32) = nI 22 from rfl, M_eat W Q.1 Q.2.1 hk (by decide), if_neg mi, bd_S, if_pos rfl]
    rfl
theorem M_isBoth {g vs : Nat → Nat} {K m t : Nat} {M0 : gMem} (W : MWd g K m t M0) {n : Nat} {F : Nat → gMem → Nat → Option (Int32 × gMem)} (IH : ∀ j k d M, j < 7 → j ≠ 3 → mQk m t d M0 M k → k ≤ K → d ≤ 8 → MRl vs m t d M0 M (Px g n j k d) (F (if j < 3 then j else j - 1) M m)) {k d : Nat} {M : gMem} (Q : mQk m t d M0 M k) (hk : k ≤ K) (hd : d ≤ 8) : MRl vs m t d M0 M (sq (Px g n 2 k d) (lpS g 21 21 (fun k => Px g n 2 k d) 401)) (fr_X14_isBoth F M m) := by
  have ht := W.1.2.2
  have hK := W.2.2.2.1
  have H := W.2.2.2.2
  have t13 : ∀ X, MI m t M0 X → mT X m = 13 := fun X CX => (MI_B W.1 CX).1.1
  have fp := fun e he => (FP_Px H n 2 e d he).1 (by decide)
  unfold fr_X14_isBoth b_X14_isBoth_0 lp_X14_isBoth_9
  rw [ck_t (t13 _ Q.1)]
  refine MR_sq ht (IH 2 k d M (by decide) (by decide) Q hk hd) (fun es M1 e he C1 h9 h10 hs => ?_)
  have fe := FP_e (fp k hk) he
  have wp := WP_P es e he
  obtain ⟨Q1, -⟩ := MQ_nx (vs := vs) (j := 0) ht Q (by omega) (by omega) (by omega) (AC_Px W.2.2.1 n 2 k d es e he) C1 h9 h10 hs
  refine MR_lp (a := 21) (b := 21) (BB := fun M => bb_X14_isBoth_9 F M m) W (by decide) (by decide) fp (fun e => WP_P) (fun e => AC_Px W.2.2.1 n 2 e d) (fun M k Q hk hg => ?_) (fun M k Q hk hg => ?_) 401 e M1 Q1 fe.1
  · have hg' : g k = 21 := hg.elim id id
    have hk1 := H k hk (by omega)
    have mi := ((mk_i (g k) (W.2.2.1 k)).2.1 21 (by decide) (by decide)).mpr hg'
    have ih := IH 2 (k + 1) d (tk' m (k + 1) M) (by decide) (by decide) (mQk_tk ht Q) hk1 hd
    have fp1 := fp (k + 1) hk1
    have wp1 := WP_P (g := g) (n := n) (j := 2) (k := k + 1) (d := d)
    have ac1 := AC_Px W.2.2.1 n 2 (k + 1) d
    show match Px g n 2 (k + 1) d with
      | none => True
      | some (none, e) => ∃ M1, bb_X14_isBoth_9 F M m = some (.inr ((0 : Int32), M1)) ∧ MI m t M0 M1 ∧ mI M1 m 9 = nI e
      | some (some es, e) => ∃ M1, bb_X14_isBoth_9 F M m = some (.inl (puM t (nI (opc (g k))) M1)) ∧ MI m t M0 M1 ∧ mI M1 m 9 = nI e ∧ mI M1 m 10 = nI d ∧ si2 m M1 (mrn vs m t es M)
    unfold bb_X14_isBoth_9
    rw [ck_t (t13 _ Q.1), show (21 : Int32) = nI 21 from rfl, M_eat W Q.1 Q.2.1 hk (by decide), if_pos mi, bd_S, if_neg (by decide), ck_t (t13 _ (mQk_tk ht Q).1), hg']
    match Px g n 2 (k + 1) d, ih, fp1, wp1, ac1 with
    | none, _, _, _, _ => trivial
    | some (none, e), ⟨M2, k1, k2, k3⟩, _, _, _ =>
      have k1 : F 2 (tk' m (k + 1) M) m = some ((0 : Int32), M2) := k1
      exact ⟨M2, by rw [k1, bd_S, if_pos rfl]; rfl, k2, k3⟩
    | some (some es, e), ⟨M2, k1, k2, k3, k4, k5⟩, fp1, wp1, ac1 =>
      have k1 : F 2 (tk' m (k + 1) M) m = some ((1 : Int32), M2) := k1
      have w1 := wp1 es e rfl
      have hs2 := si2_tr k5 (si2_rn ht es si2_tk)
      obtain ⟨-, L, l1, l2⟩ := MQ_nx (vs := vs) (j := 2) ht Q (by have := fp1.1; omega) (by omega) (by omega) (ac1 es e rfl) k2 k3 k4 hs2
      exact ⟨M2, by rw [k1, bd_S, if_neg (by decide), ck_t (t13 _ k2), M_put W k2 l2 (by have := fp1.1; omega), bd_S]; rfl, k2, k3, k4, hs2⟩
  · have mi : ¬ mk (g k) = 21 := fun z => hg (.inl (((mk_i (g k) (W.2.2.1 k)).2.1 21 (by decide) (by decide)).mp z))
    show bb_X14_isBoth_9 F M m = _
    unfold bb_X14_isBoth_9
    rw [ck_t (t13 _ Q.1), show (21 : Int32) = nI 21 from rfl, M_eat W Q.1 Q.2.1 hk (by decide), if_neg mi, bd_S, if_pos rfl]
    rfl
