/-! ## Pure: both are taught: the reference -/
/-- the reference's object at m, what is told to it at t -/
def MIv (m t n : Nat) (T : Nat → Nat) (M : gMem) : Prop :=
  MP m n T M (mI M) (mR M) ∧ (mR M m 11 = some t ∧ mR M m 13 = some (m + 24) ∧ mR M m 14 = some (m + 41)) ∧ (LSt m t (m + 24) M ∧ LSt m t (m + 41) M) ∧ (m + 7 ≤ t ∧ t + 17 ≤ mN M ∧ m + 58 ≤ mN M ∧ (t = m + 7 ∨ m + 58 ≤ t))
theorem M_teach {Z : Nat → Nat} {m t n K : Nat} {T : Nat → Nat} {M : gMem} (V : MIv m t n T M) (hK : K ≤ 400) (hlt : ∀ i, i < K → tok T n i < 42) (hge : 42 ≤ tok T n K) : ∃ N, NWd (tok T n) (pos T n) (vsT T n) K m (mN M) N ∧ mI N m 3 = -1 ∧ ∀ er Y, er < 16 → rdR Z N m = some (nI er, Y) → NFr m (mN M) N Y →
    ((er ≠ 0 → f_X14_teach Z M m = some (nI er, wI Y m 2 0)) ∧ (er = 0 → ∃ st', f_X14_teach Z M m = some (nI er, bC 17 (m + 24) st' (bgA (m + 24) (mN M + 17) 9 (nW (wR (wI Y m 2 0) m 11 (some (mN M))) 28 9))) ∧ st' 0 = mI M (m + 24) ∧ (∀ k, k < 40 → st' 1 k = mI Y (mN M + 2) k) ∧ (∀ k, k < 8 → st' 4 k = mI Y (mN M + 3) k) ∧ (∀ j k, j < 9 → k < lenS (bgR j) → st' (bgR j) k = 0) ∧ (∀ k, k < 8 → st' 7 k = -1) ∧ LSt m (mN M) (m + 24) (wR (wI Y m 2 0) m 11 (some (mN M))) ∧ LSt m (mN M) (m + 41) (wR (wI Y m 2 0) m 11 (some (mN M))))) ∧
    (∀ a, a < mN M → mT Y a = mT M a ∧ mL Y a = mL M a ∧ mJ Y a = mJ M a ∧ (a ≠ m → mR Y a = mR M a) ∧ (a < m ∨ m + 6 < a ∨ a = m + 1 → mI Y a = mI M a)) ∧ mN Y = mN M + 17 ∧ (∀ j, j ≠ 12 → mR Y m j = mR M m j) ∧ (∀ j, j ≠ 0 → j ≠ 3 → j ≠ 9 → j ≠ 10 → mI Y m j = mI M m j) := by
  obtain ⟨P, ⟨r11, r13, r14⟩, ⟨LA, LB⟩, ⟨h1, h2, h3, h4⟩⟩ := V
  have t0 : mT M m = 13 := P.1.1
  -- the flags
  have P4 : MP m n T (wI (wI M m 0 0) m 3 (-1)) (mI (wI (wI M m 0 0) m 3 (-1))) (mR (wI (wI M m 0 0) m 3 (-1))) := by
    obtain ⟨a, b, c, d, e⟩ := P
    refine ⟨a, b, ?_, d, fun q hq => ?_⟩
    · rw [wI_o (.inr (by decide)), wI_o (.inr (by decide))]; exact c
    · rw [wI_o (.inl (by omega)), wI_o (.inl (by omega))]; exact e q hq
  obtain ⟨N, n1, n2, n3, n4, n5, n6⟩ := M_read (Z := Z) P4 (by show m + 7 ≤ mN M; omega) hK hlt hge
  have N4 : mN (wI (wI M m 0 0) m 3 (-1)) = mN M := rfl
  rw [N4] at n2 n3 n4
  refine ⟨N, n2, ?_, fun er Y her hrd hF => ?_⟩
  · rw [n5 3 (by decide) (by decide), wI_e]
  obtain ⟨⟨f1, f2, f3, f4, f5⟩, f6, f7⟩ := hF
  have tY : mT Y m = 13 := by rw [f1, (n4 m (by omega)).1]; exact t0
  have fr : ∀ a, a < mN M → mT Y a = mT M a ∧ mL Y a = mL M a ∧ mJ Y a = mJ M a ∧ (a ≠ m → mR Y a = mR M a) ∧ (a < m ∨ m + 6 < a ∨ a = m + 1 → mI Y a = mI M a) := fun a ha => by
    obtain ⟨x1, x2, x3, x4, x5⟩ := n4 a ha
    refine ⟨by rw [f1, x1]; rfl, by rw [f2, x2]; rfl, by rw [f5, x3]; rfl, fun z => by rw [f4, x4 z]; rfl, fun z => ?_⟩
    rw [f6 a (by omega) (by omega) (by omega) (by omega), x5 (by omega) (by omega)]
    funext k
    rw [wI_o (.inl (by omega)), wI_o (.inl (by omega))]
  have frR : ∀ j, j ≠ 12 → mR Y m j = mR M m j := fun j hj => by rw [f4, n6 j hj]; rfl
  have frI : ∀ j, j ≠ 0 → j ≠ 3 → j ≠ 9 → j ≠ 10 → mI Y m j = mI M m j := fun j j0 j1 j2 j3 => by
    rw [f7 j j1 j2 j3, n5 j j2 j3, wI_o (.inr j1), wI_o (.inr j0)]
  have hd : f_X14_teach Z M m = (if nI er ≤ 0 then lw (wR (wI Y m 2 0) m 11 ((mR (wI Y m 2 0) m 12))) fun M10 => dr ((mR M10 m 13)) fun a13 => ck (mT M10 a13 = 11) <| bd (f_X12_begin M10 a13) fun _ M12 => some ((0 : Int32), M12) else some (nI er, wI Y m 2 0)) := by
    unfold f_X14_teach b_X14_teach_0
    rw [ck_t t0, lw_S, lw_S, n1, hrd, bd_S, ck_t tY, lw_S]
  refine ⟨⟨fun e0 => ?_, fun e0 => ?_⟩, fr, f3.trans n3, frR, frI⟩
  · rw [hd, if_neg (fun z => by have := (nI_leI (a := er) (b := 0) (by omega) (by omega)).mp z; omega)]
  · subst e0
    have m12 : mR (wI Y m 2 0) m 12 = some (mN M) := by
      show mR Y m 12 = _
      rw [f4]; exact n2.1.1.1.2.2.2.1
    obtain ⟨-, ⟨u0, ur, ut⟩, -⟩ := n2.1.1
    have LS : ∀ a, (a = m + 24 ∨ a = m + 41) → LSt m t a M → LSt m (mN M) a (wR (wI Y m 2 0) m 11 (some (mN M))) := fun a ha L => by
      obtain ⟨⟨a1, a2, a3, a4, a5⟩, bb, c, d, e⟩ := L
      have eR : ∀ x k, mR (wR (wI Y m 2 0) m 11 (some (mN M))) x k = if x = m ∧ k = 11 then some (mN M) else mR Y x k := fun _ _ => rfl
      refine ⟨⟨?_, ?_, ?_, ?_, ?_⟩, .inl (by omega), fun j j1 j2 => ⟨?_, ?_, ?_⟩, fun j j1 j2 => ⟨?_, ?_⟩, fun k k1 k2 => ?_⟩
      · show mT Y a = 11; rw [(fr a (by omega)).1]; exact a1
      · rw [eR, if_neg (by omega), (fr a (by omega)).2.2.2.1 (by omega)]; exact a2
      · exact tY
      · rw [eR, if_pos ⟨rfl, rfl⟩]
      · show mT Y (mN M) = 12; rw [f1]; exact u0
      · show mT Y (a + j) = 20; rw [(fr (a + j) (by omega)).1]; exact (c j j1 j2).1
      · show mL Y (a + j) = _; rw [(fr (a + j) (by omega)).2.1]; exact (c j j1 j2).2.1
      · rw [eR, if_neg (by omega), (fr a (by omega)).2.2.2.1 (by omega)]; exact (c j j1 j2).2.2
      · show mT Y (mN M + j) = 20; rw [f1]; exact (ut j j1 j2).1
      · show mL Y (mN M + j) = _; rw [f2]; exact (ut j j1 j2).2
      · rw [eR, if_neg (by omega), f4]; exact ur k k1 k2
    have L24 := LS (m + 24) (.inl rfl) LA
    have L41 := LS (m + 41) (.inr rfl) LB
    have nY : mN (wR (wI Y m 2 0) m 11 (some (mN M))) = mN M + 17 := f3.trans n3
    obtain ⟨st', b1, b2, b3, b4, b5, b6⟩ := r_begin (st := fun d k => mI (wR (wI Y m 2 0) m 11 (some (mN M))) (m + 24 + d) k) L24 (by rw [nY]; omega) (by rw [nY]; omega) (by rw [nY]; omega)
    rw [bC_self, nY] at b1
    refine ⟨st', ?_, ?_, fun k hk => ?_, fun k hk => ?_, b5, b6, L24, L41⟩
    · rw [hd, if_pos (show nI 0 ≤ (0 : Int32) from Int32.le_refl _), m12, lw_S, show mR (wR (wI Y m 2 0) m 11 (some (mN M))) m 13 = some (m + 24) by show (if m = m ∧ 13 = 11 then some (mN M) else mR Y m 13) = _; rw [if_neg (by omega), frR 13 (by decide)]; exact r13, dr_S, ck_t L24.1.1, b1, bd_S]
      rfl
    · rw [b2]
      show mI (wI Y m 2 0) (m + 24) = _
      rw [← (fr (m + 24) (by omega)).2.2.2.2 (by omega)]
      funext k
      exact wI_o (.inl (by omega))
    · rw [b3 k hk]; exact wI_o (.inl (by omega))
    · rw [b4 k hk]; exact wI_o (.inl (by omega))
