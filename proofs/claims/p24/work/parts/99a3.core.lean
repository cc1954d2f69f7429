/-! ## Pure: the class reads a text where all is in order -/
theorem RA_D {Z vs : Nat → Nat} {r o k nO : Nat} {L1 L2 L3 : List Nat} {E : List (Nat × Nat)} {q : Nat × Nat × Nat × Nat} {C D D' : gMem} (R : RA Z vs r o 0 7 L1 L2 L3 E nO k q C D) (h : ∀ a j, a ≤ 17 → (a ≠ 7 ∨ (j ≠ 15 ∧ j ≠ 16 ∧ j ≠ 22 ∧ j ≠ 24)) → mI D' a j = mI D a j) : RA Z vs r o 0 7 L1 L2 L3 E nO k q C D' := by
  obtain ⟨h7, RG1, RF1, RO1, RP1, RV1⟩ := R
  exact ⟨h7, RG_fr RG1 (fun _ _ _ => rfl) (fun _ => rfl) (fun a k h1 => h a k (by omega) (by omega)), RF_fr RF1 (fun _ _ _ => rfl) (fun _ => rfl) (fun a k h1 => h a k (by omega) (by omega)), RO_fr RO1 (Nat.le_refl _) (Nat.le_refl _) (fun _ _ _ => rfl) (fun a k h1 => h a k (by omega) (by omega)), RP_fr RP1 (Nat.le_refl _) (Nat.le_refl _) (fun _ _ _ => rfl) (fun _ => rfl) (fun a k h1 => h a k (by omega) (by omega)), RV_fr RV1 (Nat.le_refl _) (Nat.le_refl _) (Nat.le_refl _) (fun _ _ _ => rfl) (fun _ => rfl) (fun j _ => h _ _ (by omega) (by omega))⟩
theorem CD_core {Z g ps vs : Nat → Nat} {K r p o : Nat} {M0 M : gMem} (W : CWd Z g ps vs K r p o M0) (B : CB r p o M) (CF : CI r o M0 (fgM o M)) (h6 : mI M r 6 = nI 0) (h7 : mI M r 7 = 0) (hx : ∀ x, isX r x → mI M x 1 = 0) (hvs : ∀ i, vs i < 2 ^ 62) (hv6 : ∀ i, i ≤ K → g i = 41 → vs i < 1000000) {es : List (Nat × Nat)} {e : Nat} (hes : txL g 401 0 = some (some es, e))
    {Iv : List (Nat × Nat) → Nat × Nat × Nat × Nat → Nat → gMem → Prop} (I0 : Iv [] (0, 0, 0, 0) 0 (fgM o M)) (hI : ∀ pre suf c i q q1 h h1 k C D, es = pre ++ (c, i) :: suf → CI r o M0 C → RAp Z vs r o 0 7 pre k q C D → aA c q = some q1 → hC c h = some h1 → Iv pre q h C → Iv (pre ++ [(c, i)]) q1 h1 (stp2 Z r p o (c, i) C)) (hG : ∀ pre suf c i q h k C D, es = pre ++ (c, i) :: suf → RAp Z vs r o 0 7 pre k q C D → Iv pre q h C → GE vs o pre c i C) :
    ∃ C1 D qE, f_X6_read Z M r = some ((0 : Int32), C1) ∧ CI r o M0 C1 ∧ mI C1 r 0 = mI M r 0 ∧ (∀ a k, (a ≠ r ∨ k ≠ 6) → mI C1 a k = mI (rnE Z r p o es (fgM o M)) a k) ∧ Iv es qE 0 (rnE Z r p o es (fgM o M)) ∧ RA Z vs r o 0 7 (tks 1 es) (tks 2 es) (tks 3 es) (ceL es) (nc 54 es) e qE C1 D ∧ LSq qE ∧ (ceL es).length ≤ 400 ∧ PG Z (fun s => ((ceL es).getD s (0, 0)).1) o (ceL es).length C1 (fun d k => mI C1 (o + d) k) ∧ WS (fun d k => mI C1 (o + d) k) (tks 2 es).length (tks 1 es).length (tks 3 es).length (nc 54 es) ∧ WD (fun d k => mI C1 (o + d) k) (tks 2 es).length (tks 1 es).length ∧ RT (fun s => (ceL es).getD s (0, 0)) vs o 7 (nc 54 es) (tks 3 es).length (ceL es).length qE.2.2.1 qE.2.2.2 0 C1 D := by
  obtain ⟨hp, ho⟩ := W_ho W
  have hK := W.2.2.2.2.2.1
  have hg := W.2.2.2.2.1
  have H := W.2.2.2.2.2.2
  have hZ := W.2.2.2.1
  have CR := C_read W B CF h6
  obtain ⟨fe, -⟩ := NN_txL H hK 401 0 (Nat.zero_le _) (by omega)
  obtain ⟨qE, hA, hq⟩ := AU_txL hg 401 0 es e hes (0, 0, 0, 0) ⟨.inl rfl, .inl rfl, .inl rfl⟩
  have cp := CP_txL (g := g) 401 0 es e hes
  rw [hes] at CR fe
  obtain ⟨C1, c1, c2, c3⟩ := CR
  obtain ⟨k3, -, ESe, hhE⟩ := fe
  have hh0 : hE es 0 = some 0 := hhE 0 (fun _ => rfl)
  have hcc : cc es ≤ 400 := by omega
  have fgI : ∀ a k, a < o ∨ o + 6 ≤ a → mI (fgM o M) a k = mI M a k := fun a k h => by
    unfold fgM
    rw [wI_o (.inl (by omega)), wI_o (.inl (by omega)), wI_o (.inl (by omega)), wI_o (.inl (by omega)), wI_o (.inl (by omega))]
  have NL0 : ∀ x, isX r x → NL vs x [] (fgM o M) := fun x hx' => ⟨by rw [fgI _ _ (by rcases hx' with h | h | h <;> omega)]; exact hx x hx', Nat.zero_le _, fun j hj => absurd hj (Nat.not_lt_zero _), fun i hi => by cases hi⟩
  have f2 : mI (fgM o M) o 2 = 0 ∧ mI (fgM o M) o 3 = 0 ∧ mI (fgM o M) o 4 = 0 ∧ mI (fgM o M) o 5 = 0 ∧ mI (fgM o M) (o + 5) 0 = 0 := by
    unfold fgM
    refine ⟨?_, ?_, ?_, ?_, wI_e _ _ _ _⟩
    · rw [wI_o (.inl (by omega)), wI_o (.inr (by decide)), wI_o (.inr (by decide)), wI_o (.inr (by decide)), wI_e]
    · rw [wI_o (.inl (by omega)), wI_o (.inr (by decide)), wI_o (.inr (by decide)), wI_e]
    · rw [wI_o (.inl (by omega)), wI_o (.inr (by decide)), wI_e]
    · rw [wI_o (.inl (by omega)), wI_e]
  -- the witness, empty
  obtain ⟨N, hN⟩ : ∃ N : gMem, ∀ a k, mI N a k = 0 := ⟨sI M (fun _ _ => 0), fun _ _ => rfl⟩
  have R0 : RAp Z vs r o 0 7 [] 0 (0, 0, 0, 0) (fgM o M) N := by
    refine ⟨?_, ⟨⟨NL0 _ (.inl rfl), f2.1, hN _ _, Nat.zero_le _, fun h => absurd h (by show ¬ 1 ≤ 0; decide)⟩, fun g hg => absurd hg (Nat.not_lt_zero _), fun g _ => ⟨hN _ _, fun k _ => hN _ _⟩⟩, ⟨⟨NL0 _ (.inr (.inl rfl)), f2.2.1, hN _ _, Nat.zero_le _, fun h => absurd h (by show ¬ 1 ≤ 0; decide)⟩, fun g hg => absurd hg (Nat.not_lt_zero _), fun f _ => ⟨hN _ _, hN _ _, hN _ _⟩⟩, ⟨⟨f2.2.2.1, hN _ _, Nat.zero_le _, ⟨fun h => absurd h (by show ¬ 1 ≤ 0; decide), fun h => absurd h (by show ¬ 1 ≤ 0; decide)⟩⟩, fun i hi => absurd hi (Nat.not_lt_zero _)⟩, ⟨⟨NL0 _ (.inr (.inr rfl)), f2.2.2.2.1, hN _ _, Nat.zero_le _, fun h => absurd h (by show ¬ 1 ≤ 0; decide)⟩, fun g hg => absurd hg (Nat.not_lt_zero _), fun q _ => ⟨hN _ _, fun k _ => hN _ _⟩⟩, f2.2.2.2.2, fun s hs => absurd hs (Nat.not_lt_zero _)⟩
    rw [fgI _ _ (by omega)]; exact h7
  have V0 : RTp (fun s => (ceL es).getD s (0, 0)) vs o 7 [] (0, 0, 0, 0) 0 (fgM o M) (mrn vs 0 7 [] N) := ⟨⟨hN _ _, hN _ _⟩, ⟨⟨hN _ _, hN _ _⟩, fun s hs => absurd hs (Nat.not_lt_zero _)⟩, fun i hi => absurd hi (Nat.not_lt_zero _), fun i hi => absurd hi (Nat.not_lt_zero _)⟩
  obtain ⟨D', RA1, ⟨VV, IV⟩, -⟩ := G_run (Inv := fun pre q h C => RTp (fun s => (ceL es).getD s (0, 0)) vs o 7 pre q h C (mrn vs 0 7 pre N) ∧ Iv pre q h C) W (m := 0) (t := 7) (by decide) (fun pre suf c i q q1 h h1 k k' C D D' e1 CC R R' hA hH V => by
    refine ⟨?_, hI pre suf c i q q1 h h1 k C D e1 CC R hA hH V.2⟩
    rw [mrn_app]
    refine RT_step W (by decide) CC R R' hA hH (fun c45 => ?_) V.1
    have el : ceL es = ceL pre ++ ((c, i) :: ceL suf) := by
      rw [e1, ceL_app]
      congr 1
      show (if c < 45 then (c, i) :: ceL suf else ceL suf) = _
      rw [if_pos c45]
    refine ⟨?_, ?_⟩
    · show (ceL es).getD (ceL pre).length (0, 0) = (c, i)
      rw [el]
      simp
    · have := hcc
      rw [← ceL_cc, el, List.length_append, List.length_cons] at this
      omega) k3 hvs hv6 hcc (fun pre suf c i q h k C D e1 R V => hG pre suf c i q h k C D e1 R V.2) es 0 [] (0, 0, 0, 0) 0 (fgM o M) N rfl (Nat.le_refl 0) ESe hA hh0 R0 CF ⟨V0, I0⟩
  have s17 : ∀ a k, (a ≠ r ∨ k ≠ 6) → mI C1 a k = mI (rnE Z r p o es (fgM o M)) a k := fun a k h => sim_I c3 h
  have hJ : mJ C1 = mJ (rnE Z r p o es (fgM o M)) := by
    show mJ (at' r 0 C1) = mJ (at' r 0 (rnE Z r p o es (fgM o M)))
    rw [c3 0]
  have hR : mR C1 = mR (rnE Z r p o es (fgM o M)) := by
    show mR (at' r 0 C1) = mR (at' r 0 (rnE Z r p o es (fgM o M)))
    rw [c3 0]
  rw [List.nil_append] at RA1 VV IV
  have RA2 := RA_C ho RA1 s17 hJ hR
  have bO : nc 54 es ≤ 24 := RA1.2.2.2.1.1.2.2.1
  have bP : (tks 3 es).length ≤ 6 := RA1.2.2.2.2.1.1.2.2.2.1
  -- the witness with what the first pass leaves
  obtain ⟨D, hD⟩ : ∃ D : gMem, ∀ a k, mI D a k = if (18 ≤ a ∧ a < 24) ∨ (a = 7 ∧ (k = 15 ∨ k = 16 ∨ k = 22 ∨ k = 24)) then mI (mrn vs 0 7 es N) a k else mI D' a k := ⟨sI D' (fun a k => if (18 ≤ a ∧ a < 24) ∨ (a = 7 ∧ (k = 15 ∨ k = 16 ∨ k = 22 ∨ k = 24)) then mI (mrn vs 0 7 es N) a k else mI D' a k), fun _ _ => rfl⟩
  have RA3 := RA_D (D' := D) RA2 (fun a j h1 h2 => by rw [hD, if_neg (by omega)])
  have VV2 := RT_C (C' := C1) (P' := D) VV bO bP (fun a j i1 i2 => s17 a j (.inl (by omega))) ⟨by rw [hD, if_pos (by omega)], by rw [hD, if_pos (by omega)], by rw [hD, if_pos (by omega)], by rw [hD, if_pos (by omega)]⟩ (fun a j i1 i2 => by rw [hD, if_pos (by omega)])
  have hef : ∀ s (h : s < (ceL es).length), (ceL es).getD s (0, 0) = (ceL es)[s] := fun s h => by simp [List.getD, h]
  have hcl : (ceL es).length ≤ 400 := by rw [ceL_cc]; exact hcc
  have hc45 : ∀ s (h : s < (ceL es).length), ((ceL es)[s]).1 < 45 := fun s h => by
    have := List.getElem_mem h
    exact ceL_m _ this
  obtain ⟨w1, w2, w3⟩ := fin_W hZ hef hc45 RA3 hq VV2 hcl
  have kz := kz_rn W es (fgM o M) CF RA1.1
  refine ⟨C1, D, qE, ?_, c2, ?_, s17, IV, RA3, hq, hcl, w1, w2, w3, VV2⟩
  · rw [c1, s17 _ _ (.inr (by decide)), RA1.1]
  · rw [s17 _ _ (.inr (by decide)), kz.2, fgI _ _ (by omega)]
