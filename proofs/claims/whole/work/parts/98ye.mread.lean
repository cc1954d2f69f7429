/-! ## Pure: the reference reads: a new Told, the cut, the rest -/
theorem symG_lt {T : Nat → Nat} {n a : Nat} : (symG T n a).1 < 45 := by
  unfold symG
  cases h2 : fndN (mt T n a 2) 45 0 with
  | some i => obtain ⟨-, i1, -⟩ := fndN_s 45 0 i h2; show i < 45; omega
  | none =>
    cases h1 : fndN (mt T n a 1) 45 0 with
    | some i => obtain ⟨-, i1, -⟩ := fndN_s 45 0 i h1; show i < 45; omega
    | none => show (43 : Nat) < 45; decide
theorem wdG_lt {T : Nat → Nat} {n a : Nat} : wdG T n a < 45 := by
  unfold wdG
  split
  · cases h : fndN (mt T n a (wEnd T n a - a)) 45 0 with
    | some i => obtain ⟨-, i1, -⟩ := fndN_s 45 0 i h; show i < 45; omega
    | none => show (40 : Nat) < 45; decide
  · decide
theorem tok_45 {T : Nat → Nat} {n i : Nat} : tok T n i < 45 := by
  unfold tok tkG nmG
  split
  · split
    · split
      · exact wdG_lt
      · split
        · split <;> decide
        · exact symG_lt
    · decide
  · decide
theorem M_read {Z : Nat → Nat} {m n K : Nat} {T : Nat → Nat} {M : gMem} (P : MP m n T M (mI M) (mR M)) (hm : m + 7 ≤ mN M) (hK : K ≤ 400) (hlt : ∀ i, i < K → tok T n i < 42) (hge : 42 ≤ tok T n K) : ∃ N, f_X14_read Z M m = rdR Z N m ∧ NWd (tok T n) (pos T n) (vsT T n) K m (mN M) N ∧ mN N = mN M + 17 ∧ (∀ a, a < mN M → mT N a = mT M a ∧ mL N a = mL M a ∧ mJ N a = mJ M a ∧ (a ≠ m → mR N a = mR M a) ∧ ((a < m + 2 ∨ m + 6 < a) → a ≠ m → mI N a = mI M a)) ∧ (∀ j, j ≠ 9 → j ≠ 10 → mI N m j = mI M m j) ∧ ∀ j, j ≠ 12 → mR N m j = mR M m j := by
  obtain ⟨X, x1, x2, x3, x4, x5, x6, x7⟩ := new_told (M := M)
  have xm := fun a (h : a < mN M) => x3 a h
  obtain ⟨⟨p1, p2, p3, p4⟩, ⟨q1, q4, q5, q6, q7, q8⟩, pn, pn2, pT⟩ := P
  -- with the new Told
  have eT : mT (wR X m 12 (some (mN M))) = mT X := rfl
  have eL : mL (wR X m 12 (some (mN M))) = mL X := rfl
  have eI : mI (wR X m 12 (some (mN M))) = mI X := rfl
  have eJ : mJ (wR X m 12 (some (mN M))) = mJ X := rfl
  have eR : ∀ a k, mR (wR X m 12 (some (mN M))) a k = if a = m ∧ k = 12 then some (mN M) else mR X a k := fun _ _ => rfl
  have rm : ∀ k, k ≠ 12 → mR (wR X m 12 (some (mN M))) m k = mR M m k := fun k hk => by
    rw [eR, if_neg (fun z => hk z.2), (xm m (by omega)).2.2.2.2]
  have P' : MP m n T (wR X m 12 (some (mN M))) (mI (wR X m 12 (some (mN M)))) (mR (wR X m 12 (some (mN M)))) := by
    refine ⟨⟨?_, fun j j1 j2 => ?_, ?_, fun j j1 j2 => ?_⟩, ⟨by rw [rm 1 (by decide)]; exact q1, by rw [rm 4 (by decide)]; exact q4, by rw [rm 5 (by decide)]; exact q5, by rw [rm 6 (by decide)]; exact q6, by rw [rm 7 (by decide)]; exact q7, by rw [rm 8 (by decide)]; exact q8⟩, ?_, pn2, fun q hq => ?_⟩
    · rw [eT, (xm m (by omega)).1]; exact p1
    · rw [eT, (xm (m + j) (by omega)).1]; exact p2 j j1 j2
    · rw [eL, (xm (m + 1) (by omega)).2.1]; exact p3
    · rw [eL, (xm (m + j) (by omega)).2.1]; exact p4 j j1 j2
    · rw [eI, (xm m (by omega)).2.2.1]; exact pn
    · rw [eI, (xm (m + 1) (by omega)).2.2.1]; exact pT q hq
  have tm : mT X m = 13 := by rw [(xm m (by omega)).1]; exact p1
  obtain ⟨I', c1, c2, c3⟩ := m_cut (Z := Z) (J := mJ (wR X m 12 (some (mN M)))) P' hK hlt hge
  rw [gm_self] at c1
  generalize hY : wR X m 12 (some (mN M)) = Y at *
  refine ⟨wI (wI (gm Y I' (mR Y) (mJ Y)) m 9 0) m 10 0, ?_, ?_, ?_, fun a ha => ?_, fun j h1 h2 => ?_, fun j hj => rm j hj⟩
  · have hinit : ∀ (k : gMem → Option (Int32 × gMem)), (lw (nW M 12 0) fun M36 => bd (f_X13_init M36 (mN M)) fun _ M37 => k M37) = k X := fun k => by
      have h0 : mT (nW M 12 0) (mN M) = 12 ∧ mN M < mN (nW M 12 0) := ⟨(show (if mN M = mN M then 12 else mT M (mN M)) = 12 from if_pos rfl), Nat.lt_succ_self _⟩
      rw [lw_S, X13_i h0, bd_S] at x1
      rw [lw_S, X13_i h0, bd_S]
      have : alL (mN M) tdL (nW M 12 0) = X := by
        injection x1 with e
        injection e with _ e
      rw [this]
    unfold f_X14_read b_X14_read_0
    refine (hinit (fun M37 => ck (mT M37 m = 13) <| lw (wR M37 m 12 ((some (mN M)))) fun M39 => bd (f_X14_cut Z M39 m) fun _ M41 => ck (mT M41 m = 13) <| lw (wI M41 m 9 ((0 : Int32))) fun M43 => lw (wI M43 m 10 ((0 : Int32))) fun M45 => rdR Z M45 m)).trans ?_
    rw [ck_t tm, lw_S, hY, c1, bd_S, ck_t (show mT (gm Y I' (mR Y) (mJ Y)) m = 13 by rw [gm_T, eT]; exact tm), lw_S, lw_S]
  · have oI : ∀ a k, (a ≠ m ∨ (k ≠ 9 ∧ k ≠ 10)) → mI (wI (wI (gm Y I' (mR Y) (mJ Y)) m 9 0) m 10 0) a k = I' a k := fun a k h => by
      rw [wI_o (by omega), wI_o (by omega)]; rfl
    have fr : ∀ a k, (a < m + 2 ∨ m + 6 < a) → (a ≠ m ∨ (k ≠ 9 ∧ k ≠ 10)) → mI (wI (wI (gm Y I' (mR Y) (mJ Y)) m 9 0) m 10 0) a k = mI X a k := fun a k h h2 => by
      rw [oI a k h2, c3 a h, eI]
    have m12 : mR Y m 12 = some (mN M) := by rw [eR, if_pos ⟨rfl, rfl⟩]
    have rt : ∀ k, mR Y (mN M) k = mR X (mN M) k := fun k => by rw [eR, if_neg (by omega)]
    have MBN : MB m (mN M) (wI (wI (gm Y I' (mR Y) (mJ Y)) m 9 0) m 10 0) := by
      refine ⟨⟨?_, ?_, ?_, m12, ?_, ?_, ?_, ?_⟩, ⟨?_, fun k hk h => ?_, fun j j1 j2 => ⟨?_, ?_⟩⟩, hm⟩
      · show mT Y m = 13; rw [eT]; exact tm
      · show mR Y m 4 = _; rw [rm 4 (by decide)]; exact q4
      · show mR Y m 7 = _; rw [rm 7 (by decide)]; exact q7
      · show mT Y (m + 2) = 20; exact P'.1.2.1 2 (by decide) (by decide)
      · show mL Y (m + 2) = 401; exact P'.1.2.2.2 2 (by decide) (by decide)
      · show mT Y (m + 5) = 20; exact P'.1.2.1 5 (by decide) (by decide)
      · show mL Y (m + 5) = 401; exact P'.1.2.2.2 5 (by decide) (by decide)
      · show mT Y (mN M) = 12; rw [eT]; exact x4
      · show mR Y (mN M) k = _; rw [rt]; exact x7 k hk h
      · show mT Y (mN M + j) = 20; rw [eT]; exact (x6 j j1 j2).1
      · show mL Y (mN M + j) = lenD j; rw [eL]; exact (x6 j j1 j2).2.1
    have TX : ∀ X', FRX m (wI (wI (gm Y I' (mR Y) (mJ Y)) m 9 0) m 10 0) X' → TXT m n K T X' := fun X' hf => by
      obtain ⟨⟨f1, f2, f3⟩, f4⟩ := hf
      refine ⟨⟨?_, ?_, ?_, ?_, ?_, ?_, ?_, ?_, ?_, ?_⟩, hK, pn2, fun q hq => ?_, fun i hi => ?_⟩
      · rw [f1]; show mT Y m = 13; rw [eT]; exact tm
      · rw [f3]; show mR Y m 1 = _; rw [rm 1 (by decide)]; exact q1
      · rw [f3]; show mR Y m 5 = _; rw [rm 5 (by decide)]; exact q5
      · rw [f3]; show mR Y m 6 = _; rw [rm 6 (by decide)]; exact q6
      · rw [f1]; exact P'.1.2.1 1 (by decide) (by decide)
      · rw [f1]; exact P'.1.2.1 3 (by decide) (by decide)
      · rw [f1]; exact P'.1.2.1 4 (by decide) (by decide)
      · rw [f2]; exact P'.1.2.2.1
      · rw [f2]; exact P'.1.2.2.2 3 (by decide) (by decide)
      · rw [f2]; exact P'.1.2.2.2 4 (by decide) (by decide)
      · rw [f4 (m + 1) (.inl rfl), fr _ _ (by omega) (by omega), (xm (m + 1) (by omega)).2.2.1]; exact pT q hq
      · rw [f4 (m + 3) (.inr (.inl rfl)), f4 (m + 4) (.inr (.inr rfl)), oI _ _ (by omega), oI _ _ (by omega)]
        obtain ⟨w1, w2, w3, w4, w5⟩ := c2 i (by omega)
        exact ⟨w2, w5⟩
    refine ⟨⟨MBN, fun i hi => ?_, fun i => tok_45, hK, fun i hi hg => ?_⟩, ⟨MBN, ?_, P'.1.2.1 6 (by decide) (by decide), P'.1.2.2.2 6 (by decide) (by decide)⟩, ⟨?_, P'.1.2.1 3 (by decide) (by decide), P'.1.2.2.2 3 (by decide) (by decide)⟩, fun i hi => ?_, fun i hi => ?_, ⟨?_, wI_e _ _ _ _⟩, fun k => ?_, fun j k j1 j2 => ?_, fun X' i hf hi hg => T_num (TX X' hf) hi hg, fun i hi hg => vsT_41 hg, fun X' i j hf hi hj hgi hgj => T_same (TX X' hf) hi hj hgi hgj⟩
    · rw [oI _ _ (by omega)]; exact (c2 i (by omega)).1
    · by_cases z : i = K
      · rw [z] at hg; omega
      · omega
    · show mR Y m 8 = _; rw [rm 8 (by decide)]; exact q8
    · show mR Y m 5 = _; rw [rm 5 (by decide)]; exact q5
    · rw [oI _ _ (by omega)]; exact (c2 i (by omega)).2.1
    · rw [oI _ _ (by omega)]; exact (c2 i (by omega)).2.2.1
    · rw [wI_o (.inr (by decide)), wI_e]
    · rw [fr _ _ (by omega) (by omega)]; exact x5 k
    · rw [fr _ _ (by omega) (by omega)]; exact (x6 j j1 j2).2.2 k
  · show mN Y = _; rw [← hY]; exact x2
  · obtain ⟨a1, a2, a3, a4, a5⟩ := xm a ha
    refine ⟨?_, ?_, ?_, fun z => ?_, fun h z => ?_⟩
    · show mT Y a = _; rw [eT]; exact a1
    · show mL Y a = _; rw [eL]; exact a2
    · show mJ Y a = _; rw [eJ]; exact a4
    · show mR Y a = _
      rw [← a5]
      funext k
      rw [eR, if_neg (fun w => z w.1)]
    · rw [← a3]
      funext k
      rw [wI_o (.inl z), wI_o (.inl z)]
      show I' a k = _
      rw [c3 a h, eI]
  · rw [wI_o (.inr h2), wI_o (.inr h1)]
    show I' m j = _
    rw [c3 m (by omega), eI, (xm m (by omega)).2.2.1]
