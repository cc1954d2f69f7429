/-! ## Pure: a call of both, whatever stands in longs and however many cells there are -/
theorem STv_ad {Z : Nat → Nat} {b m o o' t n kb N : Nat} {T : Nat → Nat} {M : gMem} {J : Nat → Nat → Int64} (S : STv Z b m o o' t n kb T M) (h : mN M ≤ N) : STv Z b m o o' t n kb T (ad J N M) :=
  STv_fr S (fun a _ => ⟨rfl, rfl, rfl, fun _ => rfl⟩) (fun k _ => rfl) h
/-- both objects behind i calls -/
def LIv (Z : Nat → Nat) (b m i : Nat) (M : gMem) : Prop := ∃ o o' t n kb T, STv Z b m o o' t n kb T M ∧ kb ≤ 47520 * i
theorem LIv_ad {Z : Nat → Nat} {b m i N : Nat} {M : gMem} {J : Nat → Nat → Int64} (h : LIv Z b m i M) (hN : mN M ≤ N) : LIv Z b m i (ad J N M) := by
  obtain ⟨o, o', t, n, kb, T, S, hk⟩ := h
  exact ⟨o, o', t, n, kb, T, STv_ad S hN, hk⟩
/-- what a call leaves: both objects, and at most 140 cells more -/
def LPo (Z : Nat → Nat) (b m i N : Nat) (M : gMem) : Prop := LIv Z b m (i + 1) M ∧ N ≤ mN M ∧ mN M ≤ N + 140
def KQ (F : gMem → Option ((Nat ⊕ Int32) × gMem)) (G : gMem → Option (Int32 × gMem)) (c1 c2 : Nat) (Z : Nat → Nat) (b m i : Nat) (M : gMem) : Prop :=
  ∃ r M1, F M = some (r, M1) ∧ mN M1 = mN M ∧ (mT M1 (m + 59) = 21 ∧ mL M1 (m + 59) = 1) ∧
    ((∃ v, r = .inr v ∧ ∀ J N, mN M ≤ N → ∃ M2, G (ad J N M1) = some (v, M2) ∧ mI M2 m 0 = 0 ∧ LPo Z b m i N M2) ∨
      (r = .inl c1 ∧ ∀ J N, mN M ≤ N → ∃ v M2, G (ad J N M1) = some (v, M2) ∧ mI M2 m 0 = 1 ∧ LPo Z b m i N M2) ∨
      (c2 < 9 ∧ r = .inl c2 ∧ ∀ J N, mN M ≤ N → ∃ v M2, G (ad J N M1) = some (v, M2) ∧ mI M2 m 0 = 2 ∧ LPo Z b m i N M2))
theorem K_gen {F : gMem → Option ((Nat ⊕ Int32) × gMem)} {G : gMem → Option (Int32 × gMem)} {c1 c2 b m i : Nat} {Z : Nat → Nat} {M : gMem} (hF : ∀ J N M, F (ad J N M) = Option.map (ad0 J N) (F M)) (hO : ∀ M, PW (QR (mT M) (mL M)) (F M)) (hc : c1 ≠ c2) (h : LIv Z b m i M) (hT : ∀ M, LIv Z b m i M → ∃ r M1 v M2, F M = some (r, M1) ∧ G M1 = some (v, M2) ∧ AGR c1 c2 r v (mI M2 m 0) ∧ LPo Z b m i (mN M) M2) : KQ F G c1 c2 Z b m i M := by
  obtain ⟨r, M1, v, M2, f1, g1, a1, p1⟩ := hT M h
  have key : ∀ J N, mN M ≤ N → ∃ v' M2', G (ad J N M1) = some (v', M2') ∧ AGR c1 c2 r v' (mI M2' m 0) ∧ LPo Z b m i N M2' := fun J N hN => by
    obtain ⟨r', M1', v', M2', f2, g2, a2, p2⟩ := hT (ad J N M) (LIv_ad h hN)
    rw [hF, f1] at f2
    have e : (r, ad J N M1) = (r', M1') := by
      have z : some (ad0 J N (r, M1)) = some (r', M1') := f2
      injection z
    injection e with e1 e2
    rw [← e1] at a2
    rw [← e2] at g2
    exact ⟨v', M2', g2, a2, p2⟩
  have self : M1 = ad (mJ M) (mN M) M1 := by
    have z := hF (mJ M) (mN M) M
    rw [f1] at z
    have z2 : F (ad (mJ M) (mN M) M) = some (r, M1) := f1
    rw [z2] at z
    have z3 : some (r, M1) = some (r, ad (mJ M) (mN M) M1) := z
    injection z3 with e
    injection e
  have nN : mN M1 = mN M := by
    rw [self]
    rfl
  obtain ⟨o, o', t, n, kb, T, S, hk⟩ := id h
  obtain ⟨t1, t2⟩ := hO M _ f1
  refine ⟨r, M1, f1, nN, ⟨by rw [t1]; exact S.1.2.2.1, by rw [t2]; exact S.1.2.2.2⟩, ?_⟩
  rcases a1 with ⟨e, k⟩ | ⟨e, k⟩ | ⟨c9, e, k⟩
  · refine .inl ⟨v, e, fun J N hN => ?_⟩
    obtain ⟨v', M2', g, a, p⟩ := key J N hN
    rw [e] at a
    rcases a with ⟨e', k'⟩ | ⟨e', -⟩ | ⟨-, e', -⟩
    · injection e' with e'
      exact ⟨M2', by rw [e']; exact g, k', p⟩
    · cases e'
    · cases e'
  · refine .inr (.inl ⟨e, fun J N hN => ?_⟩)
    obtain ⟨v', M2', g, a, p⟩ := key J N hN
    rw [e] at a
    rcases a with ⟨e', -⟩ | ⟨-, k'⟩ | ⟨-, e', -⟩
    · cases e'
    · exact ⟨v', M2', g, k', p⟩
    · injection e' with e'
      exact absurd e' hc
  · refine .inr (.inr ⟨c9, e, fun J N hN => ?_⟩)
    obtain ⟨v', M2', g, a, p⟩ := key J N hN
    rw [e] at a
    rcases a with ⟨e', -⟩ | ⟨e', -⟩ | ⟨-, -, k'⟩
    · cases e'
    · injection e' with e'
      exact absurd e'.symm hc
    · exact ⟨v', M2', g, k', p⟩
theorem LPo_0 {Z : Nat → Nat} {b m o o' t n kb i c N : Nat} {T : Nat → Nat} {M : gMem} (S : STv Z b m o o' t n (kb + c) T M) (hk : kb ≤ 47520 * i) (hc : c ≤ 47520) (h1 : N ≤ mN M) (h2 : mN M ≤ N + 140) : LPo Z b m i N M := ⟨⟨o, o', t, n, kb + c, T, S, by omega⟩, h1, h2⟩
theorem kb_ok {kb i : Nat} (hk : kb ≤ 47520 * i) (hi : i ≤ 600) : kb + 47520 < 2 ^ 31 := by omega
theorem K_feed {Z : Nat → Nat} {b m i : Nat} {x1 x2 x3 x4 x5 : Int32} {M : gMem} (h : LIv Z b m i M) (hi : i ≤ 600) : KQ (fun M => f_X11_feed M b x1 x2 x3 x4 x5) (fun M => f_X14_feed M m x1 x2 x3 x4 x5) 0 9 Z b m i M :=
  K_gen (fun _ _ _ => cm_f_X11_feed) (fun _ => pr_f_X11_feed rfl rfl) (by omega) h fun M h => by
    obtain ⟨o, o', t, n, kb, T, S, hk⟩ := h
    obtain ⟨r, M1, v, M2, n', T', f1, g1, a1, s1, n1, n2, n3⟩ := T_feed (x1 := x1) (x2 := x2) (x3 := x3) (x4 := x4) (x5 := x5) S
    exact ⟨r, M1, v, M2, f1, g1, a1, LPo_0 (c := 0) s1 hk (by omega) (by omega) (by omega)⟩
theorem K_trim {Z : Nat → Nat} {b m i : Nat} {x : Int32} {M : gMem} (h : LIv Z b m i M) (hi : i ≤ 600) : KQ (fun M => f_X11_trim M b x) (fun M => f_X14_trim M m x) 1 9 Z b m i M :=
  K_gen (fun _ _ _ => cm_f_X11_trim) (fun _ => pr_f_X11_trim rfl rfl) (by omega) h fun M h => by
    obtain ⟨o, o', t, n, kb, T, S, hk⟩ := h
    obtain ⟨r, M1, v, M2, n', f1, g1, a1, s1, n1⟩ := T_trim (x := x) S
    exact ⟨r, M1, v, M2, f1, g1, a1, LPo_0 (c := 0) s1 hk (by omega) (by omega) (by omega)⟩
theorem K_count {Z : Nat → Nat} {b m i : Nat} {x : Int32} {M : gMem} (h : LIv Z b m i M) (hi : i ≤ 600) : KQ (fun M => f_X11_count M b x) (fun M => f_X14_count M m x) 2 9 Z b m i M :=
  K_gen (fun _ _ _ => cm_f_X11_count) (fun _ => pr_f_X11_count rfl rfl) (by omega) h fun M h => by
    obtain ⟨o, o', t, n, kb, T, S, hk⟩ := h
    obtain ⟨r, v, M2, f1, g1, a1, s1, n1, n2⟩ := T_count (x := x) S
    exact ⟨r, M, v, M2, f1, g1, a1, LPo_0 (c := 0) s1 hk (by omega) (by omega) (by omega)⟩
theorem K_ground {Z : Nat → Nat} {b m i : Nat} {x y : Int32} {M : gMem} (h : LIv Z b m i M) (hi : i ≤ 600) : KQ (fun M => f_X11_ground M b x y) (fun M => f_X14_ground M m x y) 2 9 Z b m i M :=
  K_gen (fun _ _ _ => cm_f_X11_ground) (fun _ => pr_f_X11_ground rfl rfl) (by omega) h fun M h => by
    obtain ⟨o, o', t, n, kb, T, S, hk⟩ := h
    obtain ⟨r, v, M2, f1, g1, a1, s1, n1⟩ := T_ground (x := x) (y := y) S
    exact ⟨r, M, v, M2, f1, g1, a1, LPo_0 (c := 0) s1 hk (by omega) (by omega) (by omega)⟩
theorem K_fisher {Z : Nat → Nat} {b m i : Nat} {x y : Int32} {M : gMem} (h : LIv Z b m i M) (hi : i ≤ 600) : KQ (fun M => f_X11_fisher M b x y) (fun M => f_X14_fisher M m x y) 2 9 Z b m i M :=
  K_gen (fun _ _ _ => cm_f_X11_fisher) (fun _ => pr_f_X11_fisher rfl rfl) (by omega) h fun M h => by
    obtain ⟨o, o', t, n, kb, T, S, hk⟩ := h
    obtain ⟨r, v, M2, f1, g1, a1, s1, n1, n2⟩ := T_fisher (x := x) (y := y) S
    exact ⟨r, M, v, M2, f1, g1, a1, LPo_0 (c := 0) s1 hk (by omega) (by omega) (by omega)⟩
theorem K_pact {Z : Nat → Nat} {b m i : Nat} {x y : Int32} {M : gMem} (h : LIv Z b m i M) (hi : i ≤ 600) : KQ (fun M => f_X11_pact M b x y) (fun M => f_X14_pact M m x y) 2 9 Z b m i M :=
  K_gen (fun _ _ _ => cm_f_X11_pact) (fun _ => pr_f_X11_pact rfl rfl) (by omega) h fun M h => by
    obtain ⟨o, o', t, n, kb, T, S, hk⟩ := h
    obtain ⟨r, v, M2, f1, g1, a1, s1, n1, n2⟩ := T_pact (x := x) (y := y) S
    exact ⟨r, M, v, M2, f1, g1, a1, LPo_0 (c := 0) s1 hk (by omega) (by omega) (by omega)⟩
theorem K_cheat {Z : Nat → Nat} {b m i : Nat} {x y : Int32} {M : gMem} (h : LIv Z b m i M) (hi : i ≤ 600) (hy : y = 0 ∨ y = 1) : KQ (fun M => f_X11_cheat M b x y) (fun M => f_X14_cheat M m x y) 2 9 Z b m i M :=
  K_gen (fun _ _ _ => cm_f_X11_cheat) (fun _ => pr_f_X11_cheat rfl rfl) (by omega) h fun M h => by
    obtain ⟨o, o', t, n, kb, T, S, hk⟩ := h
    obtain ⟨r, M1, v, M2, f1, g1, a1, s1, n1⟩ := T_cheat (x := x) S hy
    exact ⟨r, M1, v, M2, f1, g1, a1, LPo_0 (c := 0) s1 hk (by omega) (by omega) (by omega)⟩
theorem K_mend {Z : Nat → Nat} {b m i : Nat} {x : Int32} {M : gMem} (h : LIv Z b m i M) (hi : i ≤ 600) : KQ (fun M => f_X11_mend M b x) (fun M => f_X14_mend M m x) 2 0 Z b m i M :=
  K_gen (fun _ _ _ => cm_f_X11_mend) (fun _ => pr_f_X11_mend rfl rfl) (by omega) h fun M h => by
    obtain ⟨o, o', t, n, kb, T, S, hk⟩ := h
    obtain ⟨r, M1, v, M2, f1, g1, a1, s1, n1⟩ := T_mend (x := x) S (by have := kb_ok hk hi; omega)
    exact ⟨r, M1, v, M2, f1, g1, a1, LPo_0 (c := 0) s1 hk (by omega) (by omega) (by omega)⟩
theorem K_lot {Z : Nat → Nat} {b m i : Nat} {x : Int32} {M : gMem} (h : LIv Z b m i M) (hi : i ≤ 600) : KQ (fun M => f_X11_lot M b x) (fun M => f_X14_lot M m x) 2 9 Z b m i M :=
  K_gen (fun _ _ _ => cm_f_X11_lot) (fun _ => pr_f_X11_lot rfl rfl) (by omega) h fun M h => by
    obtain ⟨o, o', t, n, kb, T, S, hk⟩ := h
    obtain ⟨r, M1, v, M2, f1, g1, a1, s1, n1⟩ := T_lot (x := x) S
    exact ⟨r, M1, v, M2, f1, g1, a1, LPo_0 (c := 0) s1 hk (by omega) (by omega) (by omega)⟩
theorem K_took {Z : Nat → Nat} {b m i : Nat} {x y : Int32} {M : gMem} (h : LIv Z b m i M) (hi : i ≤ 600) : KQ (fun M => f_X11_took M b x y) (fun M => f_X14_took M m x y) 2 9 Z b m i M :=
  K_gen (fun _ _ _ => cm_f_X11_took) (fun _ => pr_f_X11_took rfl rfl) (by omega) h fun M h => by
    obtain ⟨o, o', t, n, kb, T, S, hk⟩ := h
    obtain ⟨r, v, M2, f1, g1, a1, s1, n1⟩ := T_took (x := x) (y := y) S
    exact ⟨r, M, v, M2, f1, g1, a1, LPo_0 (c := 0) s1 hk (by omega) (by omega) (by omega)⟩
theorem K_blame {Z : Nat → Nat} {b m i : Nat} {x : Int32} {M : gMem} (h : LIv Z b m i M) (hi : i ≤ 600) : KQ (fun M => f_X11_blame M b x) (fun M => f_X14_blame M m x) 2 9 Z b m i M :=
  K_gen (fun _ _ _ => cm_f_X11_blame) (fun _ => pr_f_X11_blame rfl rfl) (by omega) h fun M h => by
    obtain ⟨o, o', t, n, kb, T, S, hk⟩ := h
    obtain ⟨r, v, M2, f1, g1, a1, s1, n1⟩ := T_blame (x := x) S
    exact ⟨r, M, v, M2, f1, g1, a1, LPo_0 (c := 0) s1 hk (by omega) (by omega) (by omega)⟩
theorem K_pass {Z : Nat → Nat} {b m i : Nat} {x : Int32} {M : gMem} (h : LIv Z b m i M) (hi : i ≤ 600) : KQ (fun M => f_X11_pass Z M b x) (fun M => f_X14_pass M m x) 1 9 Z b m i M :=
  K_gen (fun _ _ _ => cm_f_X11_pass) (fun _ => pr_f_X11_pass rfl rfl) (by omega) h fun M h => by
    obtain ⟨o, o', t, n, kb, T, S, hk⟩ := h
    obtain ⟨r, M1, v, M2, kb', f1, g1, a1, s1, n1, n2⟩ := T_pass (x := x) S
    exact ⟨r, M1, v, M2, f1, g1, a1, ⟨⟨o, o', t, n, kb', T, s1, by omega⟩, by omega, by omega⟩⟩
theorem K_foresee {Z : Nat → Nat} {b m i : Nat} {x y : Int32} {M : gMem} (h : LIv Z b m i M) (hi : i ≤ 600) : KQ (fun M => f_X11_foresee Z M b x y) (fun M => f_X14_foresee M m x y) 1 2 Z b m i M :=
  K_gen (fun _ _ _ => cm_f_X11_foresee) (fun _ => pr_f_X11_foresee rfl rfl) (by omega) h fun M h => by
    obtain ⟨o, o', t, n, kb, T, S, hk⟩ := h
    obtain ⟨r, M1, v, M2, f1, g1, a1, s1, n1⟩ := T_foresee (x := x) (y := y) S (kb_ok hk hi)
    exact ⟨r, M1, v, M2, f1, g1, a1, LPo_0 (c := 0) s1 hk (by omega) (by omega) (by omega)⟩
theorem K_pays {Z : Nat → Nat} {b m i : Nat} {x y : Int32} {M : gMem} (h : LIv Z b m i M) (hi : i ≤ 600) : KQ (fun M => f_X11_pays Z M b x y) (fun M => f_X14_pays M m x y) 2 1 Z b m i M :=
  K_gen (fun _ _ _ => cm_f_X11_pays) (fun _ => pr_f_X11_pays rfl rfl) (by omega) h fun M h => by
    obtain ⟨o, o', t, n, kb, T, S, hk⟩ := h
    obtain ⟨r, M1, v, M2, f1, g1, a1, s1, n1⟩ := T_pays (x := x) (y := y) S
    exact ⟨r, M1, v, M2, f1, g1, a1, LPo_0 (c := 0) s1 hk (by omega) (by omega) (by omega)⟩
theorem K_empty {Z : Nat → Nat} {b m i : Nat} {x : Int32} {M : gMem} (h : LIv Z b m i M) (hi : i ≤ 600) : KQ (fun M => f_X11_empty Z M b x) (fun M => f_X14_empty M m x) 2 9 Z b m i M :=
  K_gen (fun _ _ _ => cm_f_X11_empty) (fun _ => pr_f_X11_empty rfl rfl) (by omega) h fun M h => by
    obtain ⟨o, o', t, n, kb, T, S, hk⟩ := h
    obtain ⟨r, M1, v, M2, f1, g1, a1, s1, n1⟩ := T_empty (x := x) S
    exact ⟨r, M1, v, M2, f1, g1, a1, LPo_0 (c := 0) s1 hk (by omega) (by omega) (by omega)⟩
theorem K_advise {Z : Nat → Nat} {b m i : Nat} {x y : Int32} {M : gMem} (h : LIv Z b m i M) (hi : i ≤ 600) : KQ (fun M => f_X11_advise Z M b x y) (fun M => f_X14_advise M m x y) 2 1 Z b m i M :=
  K_gen (fun _ _ _ => cm_f_X11_advise) (fun _ => pr_f_X11_advise rfl rfl) (by omega) h fun M h => by
    obtain ⟨o, o', t, n, kb, T, S, hk⟩ := h
    obtain ⟨r, M1, v, M2, f1, g1, a1, s1, n1⟩ := T_advise (x := x) (y := y) S (kb_ok hk hi)
    exact ⟨r, M1, v, M2, f1, g1, a1, LPo_0 (c := 0) s1 hk (by omega) (by omega) (by omega)⟩
