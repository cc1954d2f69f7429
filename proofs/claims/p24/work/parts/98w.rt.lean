/-! ## Pure: where the sums stand: any event -/
def RT (ef : Nat → Nat × Nat) (vs : Nat → Nat) (o t nO nP n x y h : Nat) (C P : gMem) : Prop :=
  (mI P t 15 = nI nO ∧ mI P t 16 = nI nP) ∧ T3 ef vs t n P ∧ T1 (fun s => (ef s).1) o t nO n x h C P ∧ T2 (fun s => (ef s).1) o t nP n y h C P
def RTp (ef : Nat → Nat × Nat) (vs : Nat → Nat) (o t : Nat) (pre : List (Nat × Nat)) (q : Nat × Nat × Nat × Nat) (h : Nat) (C P : gMem) : Prop := RT ef vs o t (nc 54 pre) (tks 3 pre).length (ceL pre).length q.2.2.1 q.2.2.2 h C P
theorem aA_q {c : Nat} {q q1 : Nat × Nat × Nat × Nat} (hA : aA c q = some q1) (h45 : 45 ≤ c) : (c ≠ 54 → (c ≠ 60 ∧ c ≠ 61) → (c ≠ 64 ∧ c ≠ 66) → q1.2.2.1 = q.2.2.1) ∧ (c ≠ 53 → (c ≠ 62 ∧ c ≠ 63) → c ≠ 65 → q1.2.2.2 = q.2.2.2) := by
  unfold aA at hA
  rw [if_neg (by omega)] at hA
  by_cases d : c = 51
  · rw [if_pos d] at hA; cases hA; exact ⟨fun _ _ _ => rfl, fun _ _ _ => rfl⟩
  rw [if_neg d] at hA; clear d
  by_cases d : c = 55
  · rw [if_pos d] at hA
    by_cases z : q.1 = 1
    · rw [if_pos z] at hA; cases hA; exact ⟨fun _ _ _ => rfl, fun _ _ _ => rfl⟩
    · rw [if_neg z] at hA; cases hA
  rw [if_neg d] at hA; clear d
  by_cases d : 1000 ≤ c
  · rw [if_pos d] at hA
    by_cases z : 1 ≤ q.1 ∧ c = 1000 + q.1
    · rw [if_pos z] at hA; cases hA; exact ⟨fun _ _ _ => rfl, fun _ _ _ => rfl⟩
    · rw [if_neg z] at hA; cases hA
  rw [if_neg d] at hA; clear d
  by_cases d : c = 52
  · rw [if_pos d] at hA
    by_cases z : q.2.1 = 0 ∨ q.2.1 = 4
    · rw [if_pos z] at hA; cases hA; exact ⟨fun _ _ _ => rfl, fun _ _ _ => rfl⟩
    · rw [if_neg z] at hA; cases hA
  rw [if_neg d] at hA; clear d
  by_cases d : c = 57 ∨ c = 58 ∨ c = 59
  · rw [if_pos d] at hA
    by_cases z : q.2.1 + 56 = c
    · rw [if_pos z] at hA; cases hA; exact ⟨fun _ _ _ => rfl, fun _ _ _ => rfl⟩
    · rw [if_neg z] at hA; cases hA
  rw [if_neg d] at hA; clear d
  by_cases d : c = 54
  · rw [if_pos d] at hA
    by_cases z : q.2.2.1 = 0 ∨ q.2.2.1 = 4
    · rw [if_pos z] at hA; cases hA; exact ⟨fun y => absurd d y, fun _ _ _ => rfl⟩
    · rw [if_neg z] at hA; cases hA
  rw [if_neg d] at hA; clear d
  by_cases d : c = 60 ∨ c = 61
  · rw [if_pos d] at hA
    by_cases z : q.2.2.1 + 59 = c
    · rw [if_pos z] at hA; cases hA; exact ⟨fun _ y => (d.elim y.1 y.2).elim, fun _ _ _ => rfl⟩
    · rw [if_neg z] at hA; cases hA
  rw [if_neg d] at hA; clear d
  by_cases d : c = 64 ∨ c = 66
  · rw [if_pos d] at hA
    by_cases z : q.2.2.1 = 3 ∧ q.2.2.2 ≠ 3
    · rw [if_pos z] at hA; cases hA; exact ⟨fun _ _ y => (d.elim y.1 y.2).elim, fun _ _ _ => rfl⟩
    · rw [if_neg z] at hA; cases hA
  rw [if_neg d] at hA; clear d
  by_cases d : c = 53
  · rw [if_pos d] at hA
    by_cases z : q.2.2.2 = 0 ∨ q.2.2.2 = 2 ∨ q.2.2.2 = 4
    · rw [if_pos z] at hA; cases hA; exact ⟨fun _ _ _ => rfl, fun y => absurd d y⟩
    · rw [if_neg z] at hA; cases hA
  rw [if_neg d] at hA; clear d
  by_cases d : c = 62
  · rw [if_pos d] at hA
    by_cases z : q.2.2.2 = 1 ∨ q.2.2.2 = 2
    · rw [if_pos z] at hA; cases hA; exact ⟨fun _ _ _ => rfl, fun _ y => absurd d y.1⟩
    · rw [if_neg z] at hA; cases hA
  rw [if_neg d] at hA; clear d
  by_cases d : c = 63
  · rw [if_pos d] at hA
    by_cases z : q.2.2.2 = 2
    · rw [if_pos z] at hA; cases hA; exact ⟨fun _ _ _ => rfl, fun _ y => absurd d y.2⟩
    · rw [if_neg z] at hA; cases hA
  rw [if_neg d] at hA; clear d
  by_cases d : c = 65
  · rw [if_pos d] at hA
    by_cases z : q.2.2.2 = 3 ∧ q.2.2.1 ≠ 3
    · rw [if_pos z] at hA; cases hA; exact ⟨fun _ _ _ => rfl, fun _ _ y => absurd d y⟩
    · rw [if_neg z] at hA; cases hA
  rw [if_neg d] at hA
  cases hA
theorem RT_step {Z g ps vs : Nat → Nat} {K r p o : Nat} {M0 : gMem} (W : CWd Z g ps vs K r p o M0) {ef : Nat → Nat × Nat} {m t : Nat} {D D' P : gMem} {pre : List (Nat × Nat)} {k k' i c h h1 : Nat} {q q1 : Nat × Nat × Nat × Nat} {C : gMem} (ht : m + 7 ≤ t) (CC : CI r o M0 C) (R : RAp Z vs r o m t pre k q C D) (R' : RAp Z vs r o m t (pre ++ [(c, i)]) k' q1 (stp2 Z r p o (c, i) C) D') (hA : aA c q = some q1) (hH : hC c h = some h1) (he : c < 45 → ef (ceL pre).length = (c, i) ∧ (ceL pre).length < 400) (T : RTp ef vs o t pre q h C P) : RTp ef vs o t (pre ++ [(c, i)]) q1 h1 (stp2 Z r p o (c, i) C) (mst1 vs m t c i P) := by
  have ho := (W_ho W).2
  have CX := CI_at (k := i) ho CC
  obtain ⟨n2, n3, n4, n5⟩ := SF_n CX.2.2.2.2
  obtain ⟨-, -, -, ⟨⟨ro1, -, ro3, ro4⟩, -⟩, ⟨⟨-, rp1, -, rp3, rp4⟩, -⟩, rv1, -⟩ := R
  obtain ⟨-, -, -, ⟨⟨-, -, ro3', -⟩, -⟩, ⟨⟨-, -, -, rp3', -⟩, -⟩, -⟩ := R'
  have xa : ∀ a j, a ≠ r → mI (at' r i C) a j = mI C a j := fun a j h => wI_o (.inl h)
  have cl : ∀ a j, tcl o a j → (c ≠ 53 ∧ c ≠ 61 ∧ c ≠ 63 ∧ c ≠ 64 ∧ c ≠ 65 ∧ c ≠ 66) → mI (stp2 Z r p o (c, i) C) a j = mI C a j := fun a j h hc => by
    rw [show mI (stp2 Z r p o (c, i) C) a j = mI (at' r i C) a j from st_cl ho h hc n2 n3 n4 n5]
    exact xa a j (by unfold tcl at h; omega)
  have el4 : lsn (at' r i C) o 4 = nc 54 pre - 1 := by
    unfold lsn
    rw [show cn (at' r i C) o 4 = nc 54 pre from cn_e ((xa o 4 (by omega)).trans ro1) (by omega)]
  have ec5 : cn (at' r i C) o 5 = (tks 3 pre).length := cn_e ((xa o 5 (by omega)).trans rp1) (by omega)
  have el5 : lsn (at' r i C) o 5 = (tks 3 pre).length - 1 := by
    unfold lsn
    rw [ec5]
  have e50 : mI (at' r i C) (o + 5) 0 = nI (ceL pre).length := (xa _ _ (by omega)).trans rv1
  obtain ⟨⟨t1, t2⟩, t3, t4, t5⟩ := T
  obtain ⟨msc1, msc2⟩ := ms_c (vs := vs) (c := c) (i := i) (M := P) ht
  unfold RTp
  rw [pre_1, pre_2, pre_3]
  by_cases c45 : c < 45
  · obtain ⟨he1, he2⟩ := he c45
    have hb : q.2.2.1 ≠ 1 ∧ q.2.2.1 ≠ 2 ∧ q.2.2.2 ≠ 1 := by
      unfold aA at hA
      rw [if_pos c45] at hA
      by_cases z : q.2.2.1 = 1 ∨ q.2.2.1 = 2 ∨ q.2.2.2 = 1
      · rw [if_pos z] at hA; cases hA
      · omega
    rw [aA_c c45 hb] at hA
    cases hA
    have r3 : ¬ (tkC c = true ∧ rl c = 3) := fun z => by
      have : ∀ c, c < 45 → rl c ≠ 3 := by decide +kernel
      exact this c c45 z.2
    have hk := (hC_s c45 hH).1
    have hc3 : nmP c ∨ c = 41 ∨ (c = 15 ∨ c = 44 ∨ (20 ≤ c ∧ c ≤ 24) ∨ (31 ≤ c ∧ c ≤ 39)) := by
      unfold okH isPO isBi at hk
      unfold nmP
      omega
    obtain ⟨t3', tj⟩ := T3_c (i := i) ht t3 he2 he1 hc3
    rw [if_neg r3, if_pos c45, if_neg (show ¬ c = 54 by omega), List.length_append]
    refine ⟨⟨?_, ?_⟩, t3', ?_, ?_⟩
    · rw [msc1, if_neg (by omega)]; exact t1
    · rw [msc2, if_neg (by omega)]; exact t2
    · exact T1_c t4 ⟨hb.1, hb.2.1⟩ (by rw [he1]; exact c45) (by rw [he1]; exact hH) (fun j k hj hk => cl _ _ (by unfold tcl; omega) (by omega)) (fun j hj => ⟨tj 11 j (by decide) (by decide), tj 12 j (by decide) (by decide)⟩)
    · exact T2_c t5 hb.2.2 (by rw [he1]; exact c45) (by rw [he1]; exact hH) (fun j k hj hk => cl _ _ (by unfold tcl; omega) (by omega)) (fun j hj => ⟨tj 13 j (by decide) (by decide), tj 14 j (by decide) (by decide)⟩)
  rw [if_neg c45]
  obtain ⟨h61, h64, h66, hsm⟩ := hC_o (by omega) hH
  have rol : ∀ v a j, a ≠ m + 5 → mI (roM m i v P) a j = mI P a j := fun v a j h => wI_o (.inl h)
  by_cases c53 : c = 53
  · subst c53
    have e : aA 53 q = (if q.2.2.2 = 0 ∨ q.2.2.2 = 2 ∨ q.2.2.2 = 4 then some (q.1, q.2.1, q.2.2.1, 1) else none) := rfl
    rw [e] at hA
    by_cases z : q.2.2.2 = 0 ∨ q.2.2.2 = 2 ∨ q.2.2.2 = 4
    · rw [if_pos z] at hA
      cases hA
      have hl : (tks 3 (pre ++ [(53, i)])).length = (tks 3 pre).length + 1 := by rw [pre_1, if_pos (by decide), List.length_append]; rfl
      rw [hl] at rp3'
      have hh := hsm (by decide) (by decide)
      subst hh
      have eP : mst1 vs m t 53 i P = wI (wI (roM m i (nI 3) P) (t + 13) (tks 3 pre).length (mI P t 22)) t 16 (nI ((tks 3 pre).length + 1)) := by
        unfold mst1
        rw [if_neg (by decide), if_neg (by decide), if_neg (by decide), if_neg (by decide), if_pos rfl, cn_e t2 (by omega), show min (tks 3 pre).length 6 = (tks 3 pre).length by omega]
      have eC : stp2 Z r p o (53, i) C = npM o (nwM r p (r + 5) i (at' r i C)) := rfl
      have FR := (W_fr W CX).2.2.2.2.1
      have ec : cn (nwM r p (r + 5) i (at' r i C)) o 5 = (tks 3 pre).length := by
        have : cn (nwM r p (r + 5) i (at' r i C)) o 5 = cn (at' r i C) o 5 := by unfold cn; rw [nw_o (by omega)]
        rw [this, ec5]
      have cr : ∀ a j, (o + 50 ≤ a ∧ a < o + 86) → a ≠ o + (74 + 2 * (tks 3 pre).length) → a ≠ o + (75 + 2 * (tks 3 pre).length) → mI (stp2 Z r p o (53, i) C) a j = mI C a j := fun a j h1 h2 h3 => by
        rw [eC]
        unfold npM
        rw [ec, show min (tks 3 pre).length 5 = (tks 3 pre).length by omega, cp_o2 (by omega), wI_o (.inl (by omega)), nw_o (by omega)]
        exact xa a j (by omega)
      have cr0 : ∀ j, j ≤ 2 → mI (stp2 Z r p o (53, i) C) (o + (74 + 2 * (tks 3 pre).length)) j = if j = 0 then -1 else 0 := fun j hj => by
        rw [eC]
        unfold npM
        rw [ec, show min (tks 3 pre).length 5 = (tks 3 pre).length by omega, cp_r, if_pos ⟨.inl rfl, by rw [Nat.sub_self]; unfold sP; rw [if_pos rfl]; exact decide_eq_true (.inl (by omega))⟩, Nat.sub_self, wI_o (.inl (by omega)), nw_o (by omega)]
        exact FR j (by omega)
      have pr : ∀ a j, a ≠ m + 5 → (a ≠ t + 13 ∨ j ≠ (tks 3 pre).length) → (a ≠ t ∨ j ≠ 16) → mI (mst1 vs m t 53 i P) a j = mI P a j := fun a j h1 h2 h3 => by
        rw [eP, wI_o h3, wI_o h2, rol _ _ _ h1]
      rw [if_pos (show tkC 53 = true ∧ rl 53 = 3 by decide), if_neg (show ¬ 53 = 54 by decide), List.length_append]
      refine ⟨⟨(pr _ _ (by omega) (by omega) (by omega)).trans t1, by rw [eP, wI_e]; rfl⟩, T3_fr t3 ⟨pr _ _ (by omega) (by omega) (by omega), pr _ _ (by omega) (by omega) (by omega)⟩ (fun j => ⟨pr _ _ (by omega) (by omega) (by omega), pr _ _ (by omega) (by omega) (by omega)⟩), ?_, ?_⟩
      · exact T1_fr t4 ⟨fun y => y, fun y => y, fun y => y, fun y => ⟨y, rfl⟩⟩ (fun j k hj hk => cr _ _ (by omega) (by omega) (by omega)) (fun j hj => ⟨pr _ _ (by omega) (by omega) (by omega), pr _ _ (by omega) (by omega) (by omega)⟩)
      · exact T2_53 t5 z (fun j k hj hk => cr _ _ (by omega) (by omega) (by omega)) cr0 (fun j hj => ⟨pr _ _ (by omega) (by omega) (by omega), pr _ _ (by omega) (by omega) (by omega)⟩) (by rw [eP, wI_o (.inl (by omega)), wI_e]; exact t3.1.1)
    · rw [if_neg z] at hA; cases hA
  have r3 : ¬ (tkC c = true ∧ rl c = 3) := fun z => by
    have h2 := z.2
    unfold rl at h2
    rw [if_neg (by omega), if_neg (by omega), if_neg c45] at h2
    by_cases y : 1000 ≤ c
    · rw [if_pos y] at h2; omega
    · rw [if_neg y] at h2
      by_cases w : 51 ≤ c ∧ c ≤ 63
      · rw [if_pos w] at h2; omega
      · rw [if_neg w] at h2; omega
  rw [if_neg r3]
  by_cases c54 : c = 54
  · subst c54
    have e : aA 54 q = (if q.2.2.1 = 0 ∨ q.2.2.1 = 4 then some (q.1, q.2.1, 1, q.2.2.2) else none) := rfl
    rw [e] at hA
    by_cases z : q.2.2.1 = 0 ∨ q.2.2.1 = 4
    · rw [if_pos z] at hA
      cases hA
      have hl : nc 54 (pre ++ [(54, i)]) = nc 54 pre + 1 := by rw [pre_3, if_pos rfl]
      rw [hl] at ro3'
      have hh := hsm (by decide) (by decide)
      subst hh
      have eP : mst1 vs m t 54 i P = wI (wI (roM m i (nI 4) P) t 15 (nI (nc 54 pre + 1))) (t + 11) (nc 54 pre) (mI P t 22) := by
        unfold mst1
        rw [if_neg (by decide), if_neg (by decide), if_neg (by decide), if_neg (by decide), if_neg (by decide), if_pos rfl, cn_e t1 (by omega), show min (nc 54 pre) 24 = nc 54 pre by omega]
      have pr : ∀ a j, a ≠ m + 5 → (a ≠ t + 11 ∨ j ≠ nc 54 pre) → (a ≠ t ∨ j ≠ 15) → mI (mst1 vs m t 54 i P) a j = mI P a j := fun a j h1 h2 h3 => by
        rw [eP, wI_o h2, wI_o h3, rol _ _ _ h1]
      rw [if_pos rfl]
      refine ⟨⟨by rw [eP, wI_o (.inl (by omega)), wI_e], (pr _ _ (by omega) (by omega) (by omega)).trans t2⟩, T3_fr t3 ⟨pr _ _ (by omega) (by omega) (by omega), pr _ _ (by omega) (by omega) (by omega)⟩ (fun j => ⟨pr _ _ (by omega) (by omega) (by omega), pr _ _ (by omega) (by omega) (by omega)⟩), ?_, ?_⟩
      · exact T1_54 t4 (fun y => by have := ro4.mpr y; omega) (fun j k hj hk => cl _ _ (by unfold tcl; omega) (by omega)) (fun j hj => ⟨pr _ _ (by omega) (by omega) (by omega), pr _ _ (by omega) (by omega) (by omega)⟩) (by rw [eP, wI_e]; exact t3.1.1)
      · exact T2_fr t5 ⟨fun y => y, fun y => y, fun y => .inl y, fun y => ⟨y, rfl⟩⟩ (fun j k hj hk => cl _ _ (by unfold tcl; omega) (by omega)) (fun j hj => ⟨pr _ _ (by omega) (by omega) (by omega), pr _ _ (by omega) (by omega) (by omega)⟩)
    · rw [if_neg z] at hA; cases hA
  rw [if_neg c54]
  rw [if_neg c54] at msc1
  rw [if_neg c53] at msc2
  by_cases c64 : c = 64 ∨ c = 66
  · have e : aA c q = (if q.2.2.1 = 3 ∧ q.2.2.2 ≠ 3 then some (q.1, q.2.1, 4, q.2.2.2) else none) := by rcases c64 with h | h <;> subst h <;> rfl
    rw [e] at hA
    by_cases z : q.2.2.1 = 3 ∧ q.2.2.2 ≠ 3
    · rw [if_pos z] at hA
      cases hA
      obtain ⟨l, hl⟩ : ∃ l, nc 54 pre = l + 1 := ⟨nc 54 pre - 1, by have := ro4.mp (by omega); omega⟩
      rw [hl, Nat.add_sub_cancel] at el4
      rw [hl] at t1 t4 ro3 ⊢
      have h0 : h = 0 ∨ h = 1 := by
        rcases c64 with y | y
        · exact .inr (h64 (.inl y)).1
        · exact .inl (h66 y).1
      have h10 : h1 = 0 := by
        rcases c64 with y | y
        · exact (h64 (.inl y)).2
        · exact (h66 y).2
      have eP : mst1 vs m t c i P = wI P (t + 12) l (mI P t 22) := by
        unfold mst1
        rw [if_neg (by omega), if_neg (by omega), if_neg (by omega), if_neg (by omega), if_neg (by omega), if_neg (by omega), if_pos c64, cn_e t1 (by omega), Nat.add_sub_cancel, show min l 24 = l by omega]
      have eC : stp2 Z r p o (c, i) C = wI (at' r i C) (o + (50 + l)) 3 (nI (ceL pre).length) := by
        rw [← el4, ← e50]
        rcases c64 with h | h <;> subst h <;> rfl
      have pr : ∀ a j, (a ≠ t + 12 ∨ j ≠ l) → mI (mst1 vs m t c i P) a j = mI P a j := fun a j h1 => by rw [eP, wI_o h1]
      have cr : ∀ a j, a ≠ r → (a ≠ o + (50 + l) ∨ j ≠ 3) → mI (stp2 Z r p o (c, i) C) a j = mI C a j := fun a j h1 h2 => by rw [eC, wI_o h2, xa a j h1]
      rw [z.1] at t4
      refine ⟨⟨(pr _ _ (by omega)).trans t1, (pr _ _ (by omega)).trans t2⟩, T3_fr t3 ⟨pr _ _ (by omega), pr _ _ (by omega)⟩ (fun j => ⟨pr _ _ (by omega), pr _ _ (by omega)⟩), ?_, ?_⟩
      · exact T1_64 t4 h0 (fun j k hj hk hh => cr _ _ (by omega) (by omega)) (by rw [eC, wI_e]) (fun j hj => ⟨pr _ _ (by omega), fun y => pr _ _ (by omega)⟩) (by rw [eP, wI_e]; exact t3.1.1)
      · exact T2_fr t5 ⟨fun y => y, fun y => y, fun y => .inl y, fun y => absurd y z.2⟩ (fun j k hj hk => cr _ _ (by omega) (by omega)) (fun j hj => ⟨pr _ _ (by omega), pr _ _ (by omega)⟩)
    · rw [if_neg z] at hA; cases hA
  by_cases c65 : c = 65
  · subst c65
    have e : aA 65 q = (if q.2.2.2 = 3 ∧ q.2.2.1 ≠ 3 then some (q.1, q.2.1, q.2.2.1, 4) else none) := rfl
    rw [e] at hA
    by_cases z : q.2.2.2 = 3 ∧ q.2.2.1 ≠ 3
    · rw [if_pos z] at hA
      cases hA
      obtain ⟨l, hl⟩ : ∃ l, (tks 3 pre).length = l + 1 := ⟨(tks 3 pre).length - 1, by have := rp4 (by omega); omega⟩
      rw [hl, Nat.add_sub_cancel] at el5
      rw [hl] at t2 t5 rp3 ⊢
      have hz := h64 (.inr rfl)
      have eP : mst1 vs m t 65 i P = wI P (t + 14) l (mI P t 22) := by
        unfold mst1
        rw [if_neg (by decide), if_neg (by decide), if_neg (by decide), if_neg (by decide), if_neg (by decide), if_neg (by decide), if_neg (by decide), if_pos rfl, cn_e t2 (by omega), Nat.add_sub_cancel, show min l 6 = l by omega]
      have eC : stp2 Z r p o (65, i) C = wI (at' r i C) (o + (74 + 2 * l)) 2 (nI (ceL pre).length) := by
        rw [← el5, ← e50]
        rfl
      have pr : ∀ a j, (a ≠ t + 14 ∨ j ≠ l) → mI (mst1 vs m t 65 i P) a j = mI P a j := fun a j h1 => by rw [eP, wI_o h1]
      have cr : ∀ a j, a ≠ r → (a ≠ o + (74 + 2 * l) ∨ j ≠ 2) → mI (stp2 Z r p o (65, i) C) a j = mI C a j := fun a j h1 h2 => by rw [eC, wI_o h2, xa a j h1]
      rw [z.1] at t5
      refine ⟨⟨(pr _ _ (by omega)).trans t1, (pr _ _ (by omega)).trans t2⟩, T3_fr t3 ⟨pr _ _ (by omega), pr _ _ (by omega)⟩ (fun j => ⟨pr _ _ (by omega), pr _ _ (by omega)⟩), ?_, ?_⟩
      · exact T1_fr t4 ⟨fun y => y, fun y => y, fun y => y, fun y => absurd y z.2⟩ (fun j k hj hk => cr _ _ (by omega) (by omega)) (fun j hj => ⟨pr _ _ (by omega), pr _ _ (by omega)⟩)
      · exact T2_65 t5 hz.1 (fun j k hj hk hh => cr _ _ (by omega) (by omega)) (by rw [eC, wI_e]) (fun j hj => ⟨pr _ _ (by omega), fun y => pr _ _ (by omega)⟩) (by rw [eP, wI_e]; exact t3.1.1)
    · rw [if_neg z] at hA; cases hA
  -- events that keep a role alone
  have hh : h1 = h := hsm (by omega) c65
  have ok := aA_ok hA
  unfold okC at ok
  obtain ⟨v, eP⟩ : ∃ v, mst1 vs m t c i P = roM m i v P := ⟨_, ms_ro (by omega)⟩
  have pr : ∀ a j, a ≠ m + 5 → mI (mst1 vs m t c i P) a j = mI P a j := fun a j h1 => by rw [eP, rol _ _ _ h1]
  have T0' : mI (mst1 vs m t c i P) t 15 = nI (nc 54 pre) ∧ mI (mst1 vs m t c i P) t 16 = nI (tks 3 pre).length := ⟨msc1.trans t1, msc2.trans t2⟩
  have T3' : T3 ef vs t (ceL pre).length (mst1 vs m t c i P) := T3_fr t3 ⟨pr _ _ (by omega), pr _ _ (by omega)⟩ (fun j => ⟨pr _ _ (by omega), pr _ _ (by omega)⟩)
  by_cases c61 : c = 61
  · subst c61
    have e : aA 61 q = (if q.2.2.1 + 59 = 61 then some (q.1, q.2.1, q.2.2.1 + 1, q.2.2.2) else none) := rfl
    rw [e] at hA
    by_cases z : q.2.2.1 + 59 = 61
    · have z1 : q.2.2.1 = 2 := by omega
      rw [if_pos z, z1] at hA
      cases hA
      obtain ⟨l, hl⟩ : ∃ l, nc 54 pre = l + 1 := ⟨nc 54 pre - 1, by have := ro4.mp (by omega); omega⟩
      rw [hl, Nat.add_sub_cancel] at el4
      rw [hl] at t4 T0' ⊢
      obtain ⟨h0, h10⟩ := h61 (.inl rfl)
      have eC : stp2 Z r p o (61, i) C = wI (wI (kwM r p (r + 1) i (at' r i C)) (o + (50 + l)) 1 (mI (kwM r p (r + 1) i (at' r i C)) r 8)) (o + (50 + l)) 2 (nI (ceL pre).length) := by
        rw [← el4, ← e50]
        rfl
      have cr : ∀ a j, a ≠ r → (a ≠ o + (50 + l) ∨ (j ≠ 1 ∧ j ≠ 2)) → mI (stp2 Z r p o (61, i) C) a j = mI C a j := fun a j h1 h2 => by rw [eC, wI_o (by omega), wI_o (by omega), kw_o h1, xa a j h1]
      rw [z1] at t4
      rw [h10]
      refine ⟨T0', T3', ?_, ?_⟩
      · exact T1_61 t4 (fun j k hj hk hh => cr _ _ (by omega) (by omega)) (by rw [eC, wI_e]) (fun j hj => ⟨pr _ _ (by omega), pr _ _ (by omega)⟩)
      · exact T2_fr t5 ⟨fun y => y, fun y => y, fun y => .inl y, fun y => ⟨y, h0.symm⟩⟩ (fun j k hj hk => cr _ _ (by omega) (by omega)) (fun j hj => ⟨pr _ _ (by omega), pr _ _ (by omega)⟩)
    · rw [if_neg z] at hA; cases hA
  by_cases c63 : c = 63
  · subst c63
    have e : aA 63 q = (if q.2.2.2 = 2 then some (q.1, q.2.1, q.2.2.1, 3) else none) := rfl
    rw [e] at hA
    by_cases z : q.2.2.2 = 2
    · rw [if_pos z] at hA
      cases hA
      obtain ⟨l, hl⟩ : ∃ l, (tks 3 pre).length = l + 1 := ⟨(tks 3 pre).length - 1, by have := rp4 (by omega); omega⟩
      rw [hl, Nat.add_sub_cancel] at el5
      rw [hl] at t5 T0' ⊢
      obtain ⟨h0, h10⟩ := h61 (.inr rfl)
      have eC : stp2 Z r p o (63, i) C = wI (wI (kwM r p (r + 1) i (at' r i C)) (o + (74 + 2 * l)) 0 (mI (kwM r p (r + 1) i (at' r i C)) r 8)) (o + (74 + 2 * l)) 1 (nI (ceL pre).length) := by
        rw [← el5, ← e50]
        rfl
      have cr : ∀ a j, a ≠ r → (a ≠ o + (74 + 2 * l) ∨ (j ≠ 0 ∧ j ≠ 1)) → mI (stp2 Z r p o (63, i) C) a j = mI C a j := fun a j h1 h2 => by rw [eC, wI_o (by omega), wI_o (by omega), kw_o h1, xa a j h1]
      rw [z] at t5
      rw [h10]
      refine ⟨T0', T3', ?_, ?_⟩
      · exact T1_fr t4 ⟨fun y => y, fun y => y, fun y => y, fun y => ⟨y, h0.symm⟩⟩ (fun j k hj hk => cr _ _ (by omega) (by omega)) (fun j hj => ⟨pr _ _ (by omega), pr _ _ (by omega)⟩)
      · exact T2_63 t5 (fun j k hj hk hh => cr _ _ (by omega) (by omega)) (by rw [eC, wI_e]) (fun j hj => ⟨pr _ _ (by omega), pr _ _ (by omega)⟩)
    · rw [if_neg z] at hA; cases hA
  subst hh
  have cl' : ∀ a j, tcl o a j → mI (stp2 Z r p o (c, i) C) a j = mI C a j := fun a j h => cl a j h (by omega)
  have q1O : q1.2.2.1 = q.2.2.1 ∨ (q.2.2.1 = 1 ∧ q1.2.2.1 = 2) := by
    by_cases y : c = 60
    · subst y
      have e : aA 60 q = (if q.2.2.1 + 59 = 60 then some (q.1, q.2.1, q.2.2.1 + 1, q.2.2.2) else none) := rfl
      rw [e] at hA
      by_cases z : q.2.2.1 + 59 = 60
      · rw [if_pos z] at hA
        cases hA
        exact .inr ⟨by omega, by show q.2.2.1 + 1 = 2; omega⟩
      · rw [if_neg z] at hA; cases hA
    · refine .inl ?_
      exact (aA_q hA (by omega)).1 (by omega) (by omega) (by omega)
  have q1P : q1.2.2.2 = q.2.2.2 ∨ ((q.2.2.2 = 1 ∨ q.2.2.2 = 2) ∧ q1.2.2.2 = 2) := by
    by_cases y : c = 62
    · subst y
      have e : aA 62 q = (if q.2.2.2 = 1 ∨ q.2.2.2 = 2 then some (q.1, q.2.1, q.2.2.1, 2) else none) := rfl
      rw [e] at hA
      by_cases z : q.2.2.2 = 1 ∨ q.2.2.2 = 2
      · rw [if_pos z] at hA
        cases hA
        exact .inr ⟨z, rfl⟩
      · rw [if_neg z] at hA; cases hA
    · refine .inl ?_
      exact (aA_q hA (by omega)).2 (by omega) (by omega) (by omega)
  refine ⟨T0', T3', ?_, ?_⟩
  · exact T1_fr t4 ⟨fun y => by omega, fun y => by omega, fun y => by omega, fun y => ⟨by omega, rfl⟩⟩ (fun j k hj hk => cl' _ _ (by unfold tcl; omega)) (fun j hj => ⟨pr _ _ (by omega), pr _ _ (by omega)⟩)
  · exact T2_fr t5 ⟨fun y => by omega, fun y => by omega, fun y => by omega, fun y => ⟨by omega, rfl⟩⟩ (fun j k hj hk => cl' _ _ (by unfold tcl; omega)) (fun j hj => ⟨pr _ _ (by omega), pr _ _ (by omega)⟩)

