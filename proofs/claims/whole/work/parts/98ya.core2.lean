/-! ## Pure: both readings of a text that was cut: the same error, or the same is told -/
theorem FRX_1 {m t : Nat} {N X Y : gMem} (ht : m + 7 ≤ t) (C : MI m t N X) (D : M2I m t X Y) : FRX m N Y := by
  obtain ⟨⟨a1, a2, a3, a4, a5⟩, a6, a7⟩ := C
  obtain ⟨⟨b1, b2, b3, b4, b5⟩, b6, b7⟩ := D
  refine ⟨⟨b1.trans a1, b2.trans a2, b4.trans a4⟩, fun a ha => ?_⟩
  rw [b6 a (by omega) (by omega) (by omega), a6 a (by omega) (by omega) (by omega)]
theorem ceL_m : ∀ {a : List (Nat × Nat)} (y : Nat × Nat), y ∈ ceL a → y.1 < 45
  | [], y, h => by cases h
  | x :: r, y, h => by
    rw [ceL] at h
    by_cases c : x.1 < 45
    · rw [if_pos c] at h
      rcases List.mem_cons.mp h with e | e
      · rw [e]; exact c
      · exact ceL_m y e
    · rw [if_neg c] at h; exact ceL_m y h
theorem RD_core {Z g ps vs : Nat → Nat} {K r p o m t : Nat} {M0 M N : gMem} (W : CWd Z g ps vs K r p o M0) (B : CB r p o M) (CF : CI r o M0 (fgM o M)) (h6 : mI M r 6 = nI 0) (h7 : mI M r 7 = 0) (hx : ∀ x, isX r x → mI M x 1 = 0) (NW : NWd g ps vs K m t N) (hvs : ∀ i, vs i < 2 ^ 62) :
    ∃ er C1 Y, er < 16 ∧ f_X6_read Z M r = some (nI er, C1) ∧ rdR Z N m = some (nI er, Y) ∧ CI r o M0 C1 ∧ NFr m t N Y ∧ ((er ≠ 0 ∧ ∃ i, i ≤ K ∧ mI C1 r 0 = nI (ps i) ∧ mI Y m 3 = nI (ps i)) ∨ (er = 0 ∧ mI C1 r 0 = mI M r 0 ∧ mI Y m 3 = mI N m 3 ∧ ∃ pg len F G np nO, len ≤ 400 ∧ PG Z pg o len C1 (fun d k => mI C1 (o + d) k) ∧ WS (fun d k => mI C1 (o + d) k) F G np nO ∧ WD (fun d k => mI C1 (o + d) k) F G ∧ TR pg len (fun d k => mI C1 (o + d) k) Y t F G np nO ∧ NEWA (fun d k => mI C1 (o + d) k) Y t F G np)) := by
  obtain ⟨MW, PBN, ⟨r5, t3, l3⟩, fps, z5, ⟨z9, z10⟩, zt, zr, hN, hN6, hS⟩ := NW
  have ht := MW.1.2.2
  have hK := MW.2.2.2.1
  have hg := MW.2.2.1
  have H := MW.2.2.2.2
  obtain ⟨hp, ho⟩ := W_ho W
  have hZ := W.2.2.2.1
  -- the class reads
  have CR := C_read W B CF h6
  -- the reference reads, pass one
  have FX0 : ∀ X, MI m t N X → FRX m N X := fun X CX => FRX_1 ht CX ⟨⟨rfl, rfl, rfl, rfl, rfl⟩, fun _ _ _ _ => rfl, fun _ => rfl, fun _ _ _ _ _ _ => rfl⟩
  have Q0 : mQk m t 0 N N 0 := ⟨⟨⟨rfl, rfl, rfl, rfl, rfl⟩, fun _ _ _ _ => rfl, fun _ _ _ => rfl⟩, z9, z10, ⟨0, by omega, zt 22⟩, ⟨0, Nat.le_refl _, zt 24⟩⟩
  have ML := M_txL (vs := vs) MW (fun X k CX hk hgk => hN X k (FX0 X CX) hk hgk) 401 0 N 0 0 Q0 (Nat.zero_le _) (zt 15) (Nat.le_refl _) (zt 16) (Nat.le_refl _)
  obtain ⟨fe, ne⟩ := NN_txL H hK 401 0 (Nat.zero_le _) (by omega)
  have au := AU_txL hg 401 0
  have cp := CP_txL (g := g) 401 0
  match hx1 : txL g 401 0, CR, ML, fe, ne with
  | none, _, _, _, ne => exact absurd rfl ne
  | some (none, e), ⟨C1, c1, c2, c3⟩, ⟨M1, k1, k2, k3, k4⟩, _, _ =>
    have q : inb (nI e) 401 := (inbN (by omega)).mpr (by omega)
    obtain ⟨⟨a1, a2, a3, a4, a5⟩, a6, a7⟩ := k2
    have e3 : mI M1 (m + 3) e = nI (ps e) := by rw [a6 (m + 3) (by omega) (by omega) (by omega)]; exact fps e k4
    refine ⟨1, _, wI M1 m 3 (nI (ps e)), by decide, c1, ?_, ?_, ?_, .inl ⟨by decide, e, c3, wI_e _ _ _ _, wI_e _ _ _ _⟩⟩
    · unfold rdR
      rw [show f_X14_isText N m = lp_X14_isText_0 N m from rfl, k1, bd_S, if_pos rfl, a1, ck_t MW.1.1.1, a4, r5, dr_S, ck_t t3, k3, a2, l3, ck_t q, nI_clamp (by omega), e3, lw_S]
      rfl
    · exact CI_wI (CI_wI c2 (.inr (.inr (by omega))) (by unfold hot isX; omega)) (.inr (.inr (by omega))) (by unfold hot isX; omega)
    · refine ⟨⟨a1, a2, a3, a4, a5⟩, fun a h1 h2 h3 h4 => ?_, fun j h1 h2 h3 => ?_⟩
      · rw [← a6 a h1 h2 h4]
        funext k
        exact wI_o (.inl h1)
      · rw [wI_o (.inr h1)]; exact a7 j h2 h3
  | some (some es, e), ⟨C1, c1, c2, c3⟩, ⟨M1, k1, k2, k3, k4⟩, fe, _ =>
    obtain ⟨-, -, ESe, hhE⟩ := fe
    have hh0 := hhE 0 (fun _ => rfl)
    have hh0 : hE es 0 = some 0 := hh0
    obtain ⟨qE, hA, hq⟩ := au es e hx1 (0, 0, 0, 0) ⟨.inl rfl, .inl rfl, .inl rfl⟩
    have hcc := cp es e hx1
    have hcc : cc es ≤ 400 := by omega
    have okE := aE_ok es _ _ hA
    have CM := k2.1
    obtain ⟨⟨a1, a2, a3, a4, a5⟩, a6, a7⟩ := id CM
    -- the world of pass two
    have MBM : PB m t M1 := by
      unfold PB MB
      rw [a1, a2, a4]
      exact PBN
    have sI1 : ∀ a k, a ≠ m → mI M1 a k = mI (mrn vs m t es N) a k := fun a k h => si2_I k4 h
    have roles := (mr_r (g := g) (vs := vs) (K := K) ht es 0 e N ESe okE (fun i _ hi => z5 i hi)).2
    have PW : PRW g vs ps (roE es) K m t M1 := by
      refine ⟨fun v => ⟨MBM, fun i hi => ⟨?_, roE_le es i⟩, hK, fun i hi h1 h4 => roE_kd es 0 e i ESe okE h1 h4, fun X i CX hi hgi => ?_, hN6, fun X i j CX hi hj hgi hgj => ?_⟩, by rw [a4]; exact r5, by rw [a1]; exact t3, by rw [a2]; exact l3, fun i hi => ?_⟩
      · rw [wI_o (.inl (by omega)), sI1 _ _ (by omega)]
        exact roles i (Nat.zero_le _) hi
      · exact hN X i (FRX_1 ht (MI_w CM (.inl (by omega)) ht) CX) hi hgi
      · exact hS X i j (FRX_1 ht (MI_w CM (.inl (by omega)) ht) CX) hi hj hgi hgj
      · rw [a6 (m + 3) (by omega) (by omega) (by omega)]; exact fps i hi
    have fI : ∀ a k, a ≠ m → a ≠ m + 5 → (a < t + 11 ∨ t + 17 ≤ a) → (a ≠ t ∨ (k ≠ 15 ∧ k ≠ 16 ∧ k ≠ 22 ∧ k ≠ 24)) → mI M1 a k = mI N a k := fun a k h1 h2 h3 h4 => by rw [sI1 _ _ h1, mr_fr ht h2 h3 h4]
    -- the relation at the beginning
    have fgI : ∀ a k, a < o ∨ o + 6 ≤ a → mI (fgM o M) a k = mI M a k := fun a k h => by
      unfold fgM
      rw [wI_o (.inl (by omega)), wI_o (.inl (by omega)), wI_o (.inl (by omega)), wI_o (.inl (by omega)), wI_o (.inl (by omega))]
    have NL0 : ∀ x, isX r x → NL vs x [] (fgM o M) := fun x hx' => ⟨by rw [fgI _ _ (by rcases hx' with h | h | h <;> omega)]; exact hx x hx', Nat.zero_le _, fun j hj => absurd hj (Nat.not_lt_zero _), fun i hi => by cases hi⟩
    have f2 : mI (fgM o M) o 2 = 0 ∧ mI (fgM o M) o 3 = 0 ∧ mI (fgM o M) o 4 = 0 ∧ mI (fgM o M) o 5 = 0 ∧ mI (fgM o M) (o + 5) 0 = 0 := by
      unfold fgM
      refine ⟨?_, ?_, ?_, ?_, wI_e _ _ _ _⟩
      · rw [wI_o (.inl (by omega)), wI_o (.inr (by decide)), wI_o (.inr (by decide)), wI_o (.inr (by decide)), wI_e]
      · rw [wI_o (.inl (by omega)), wI_o (.inr (by decide)), wI_o (.inr (by decide)), wI_e]
      · rw [wI_o (.inl (by omega)), wI_o (.inr (by decide)), wI_e]
      · rw [wI_o (.inl (by omega)), wI_e]
    have d0 : ∀ k, (k ≠ 15 ∧ k ≠ 16 ∧ k ≠ 22 ∧ k ≠ 24) → mI (wI M1 m 9 (nI 0)) t k = 0 := fun k hk => by
      rw [wI_o (.inl (by omega)), fI _ _ (by omega) (by omega) (by omega) (.inr hk)]; exact zt k
    have dr0 : ∀ j k, 1 ≤ j → j ≤ 10 → mI (wI M1 m 9 (nI 0)) (t + j) k = 0 := fun j k h1 h2 => by
      rw [wI_o (.inl (by omega)), fI _ _ (by omega) (by omega) (by omega) (.inl (by omega))]; exact zr j k h1 (by omega)
    have R0 : RAp Z vs r o m t [] 0 (0, 0, 0, 0) (fgM o M) (wI M1 m 9 (nI 0)) := by
      refine ⟨?_, ⟨⟨NL0 _ (.inl rfl), f2.1, d0 0 (by decide), Nat.zero_le _, fun h => absurd h (by show ¬ 1 ≤ 0; decide)⟩, fun g hg => absurd hg (Nat.not_lt_zero _), fun g _ => ⟨dr0 1 g (by decide) (by decide), fun k _ => dr0 2 _ (by decide) (by decide)⟩⟩, ⟨⟨NL0 _ (.inr (.inl rfl)), f2.2.1, d0 4 (by decide), Nat.zero_le _, fun h => absurd h (by show ¬ 1 ≤ 0; decide)⟩, fun g hg => absurd hg (Nat.not_lt_zero _), fun f _ => ⟨dr0 3 f (by decide) (by decide), dr0 4 f (by decide) (by decide), dr0 5 f (by decide) (by decide)⟩⟩, ⟨⟨f2.2.2.1, d0 8 (by decide), Nat.zero_le _, ⟨fun h => absurd h (by show ¬ 1 ≤ 0; decide), fun h => absurd h (by show ¬ 1 ≤ 0; decide)⟩⟩, fun i hi => absurd hi (Nat.not_lt_zero _)⟩, ⟨⟨NL0 _ (.inr (.inr rfl)), f2.2.2.2.1, d0 11 (by decide), Nat.zero_le _, fun h => absurd h (by show ¬ 1 ≤ 0; decide)⟩, fun g hg => absurd hg (Nat.not_lt_zero _), fun q _ => ⟨dr0 9 q (by decide) (by decide), fun k _ => dr0 10 _ (by decide) (by decide)⟩⟩, f2.2.2.2.2, fun s hs => absurd hs (Nat.not_lt_zero _)⟩
      rw [fgI _ _ (by omega)]; exact h7
    have DD0 : M2I m t (wI M1 m 9 (nI 0)) (wI M1 m 9 (nI 0)) := ⟨⟨rfl, rfl, rfl, rfl, rfl⟩, fun _ _ _ _ => rfl, fun _ => rfl, fun _ _ _ _ _ _ => rfl⟩
    have V0 : RTp (fun s => (ceL es).getD s (0, 0)) vs o t [] (0, 0, 0, 0) 0 (fgM o M) (mrn vs m t [] N) := ⟨⟨zt 15, zt 16⟩, ⟨⟨zt 22, zt 24⟩, fun s hs => absurd hs (Nat.not_lt_zero _)⟩, fun i hi => absurd hi (Nat.not_lt_zero _), fun i hi => absurd hi (Nat.not_lt_zero _)⟩
    have run := P2_run (Inv := fun pre q h C => RTp (fun s => (ceL es).getD s (0, 0)) vs o t pre q h C (mrn vs m t pre N)) W (fun pre suf c i q q1 h h1 k k' C D D' e1 CC R R' hA hH V => by
      rw [mrn_app]
      refine RT_step W ht CC R R' hA hH (fun c45 => ?_) V
      have el : ceL es = ceL pre ++ ((c, i) :: ceL suf) := by
        rw [e1, ceL_app]
        congr 1
        show (if c < 45 then (c, i) :: ceL suf else ceL suf) = _
        rw [if_pos c45]
      refine ⟨?_, ?_⟩
      · show (ceL es).getD (ceL pre).length (0, 0) = (c, i)
        rw [el]
        simp
      · have := hcc
        rw [← ceL_cc, el, List.length_append, List.length_cons] at this
        omega) PW k3 hvs hcc es 0 [] (0, 0, 0, 0) 0 (fgM o M) (wI M1 m 9 (nI 0)) rfl (Nat.le_refl 0) ESe hA hh0 R0 CF DD0 V0
    have rd : rdR Z N m = lp_X14_read_57 Z (wI M1 m 9 (nI 0)) m (nI e) := by
      unfold rdR
      rw [show f_X14_isText N m = lp_X14_isText_0 N m from rfl, k1, bd_S, if_neg (show ¬ (1 : Int32) = 0 by decide), a1, ck_t MW.1.1.1, k2.2.1]
      rfl
    have nfr : ∀ D' Y j, M2I m t (wI M1 m 9 (nI j)) D' → (mT Y = mT D' ∧ mL Y = mL D' ∧ mN Y = mN D' ∧ mR Y = mR D' ∧ mJ Y = mJ D') → (∀ a, a ≠ m → (a < t ∨ t + 17 ≤ a) → mI Y a = mI D' a) → (∀ j, j ≠ 3 → mI Y m j = mI D' m j) → NFr m t N Y := fun D' Y j h1 h2 h3 h4 => by
      obtain ⟨⟨b1, b2, b3, b4, b5⟩, b6, b7, b8⟩ := h1
      refine ⟨⟨h2.1.trans (b1.trans a1), h2.2.1.trans (b2.trans a2), h2.2.2.1.trans (b3.trans a3), h2.2.2.2.1.trans (b4.trans a4), h2.2.2.2.2.trans (b5.trans a5)⟩, fun a i1 i2 i3 i4 => ?_, fun j i1 i2 i3 => ?_⟩
      · rw [h3 a i1 i4, b6 a i1 i3 (by omega)]
        have : mI (wI M1 m 9 (nI j)) a = mI M1 a := by funext k; exact wI_o (.inl i1)
        rw [this, a6 a i1 i2 i4]
      · rw [h4 j i1, b7 j, wI_o (.inr i2), a7 j i2 i3]
    have s17 : ∀ a k, (a ≠ r ∨ k ≠ 6) → mI C1 a k = mI (rnE Z r p o es (fgM o M)) a k := fun a k h => sim_I c3 h
    rcases run with ⟨er, i, D', r1, r2, r3, r4, r5', r6⟩ | ⟨D', r4, r5', RA1, VV⟩
    · refine ⟨er, C1, wI D' m 3 (nI (ps i)), r2, ?_, by rw [rd]; exact r4, c2, nfr D' _ i r5' ⟨rfl, rfl, rfl, rfl, rfl⟩ (fun a h1 _ => by funext k; exact wI_o (.inl h1)) (fun j h => wI_o (.inr h)), .inl ⟨r1, i, r3, ?_, wI_e _ _ _ _⟩⟩
      · rw [c1, s17 _ _ (.inr (by decide)), r6.1]
      · rw [s17 _ _ (.inr (by decide)), r6.2]
    · have hJ : mJ C1 = mJ (rnE Z r p o es (fgM o M)) := by
        show mJ (at' r 0 C1) = mJ (at' r 0 (rnE Z r p o es (fgM o M)))
        rw [c3 0]
      have hR : mR C1 = mR (rnE Z r p o es (fgM o M)) := by
        show mR (at' r 0 C1) = mR (at' r 0 (rnE Z r p o es (fgM o M)))
        rw [c3 0]
      rw [List.nil_append] at RA1 VV
      have RA2 := RA_C ho RA1 s17 hJ hR
      have bO : nc 54 es ≤ 24 := RA1.2.2.2.1.1.2.2.1
      have bP : (tks 3 es).length ≤ 6 := RA1.2.2.2.2.1.1.2.2.2.1
      have bF : (tks 2 es).length ≤ 8 := RA1.2.2.1.1.1.2.1
      have bG : (tks 1 es).length ≤ 8 := RA1.2.1.1.1.2.1
      obtain ⟨⟨b1, b2, b3, b4, b5⟩, b6, b7, b8⟩ := id r5'
      have dt : ∀ k, k ≠ 0 → k ≠ 3 → k ≠ 4 → k ≠ 8 → k ≠ 11 → mI D' t k = mI (mrn vs m t es N) t k := fun k i1 i2 i3 i4 i5 => by rw [b8 k i1 i2 i3 i4 i5, wI_o (.inl (by omega)), sI1 _ _ (by omega)]
      have dr1 : ∀ a k, t + 11 ≤ a → a < t + 17 → mI D' a k = mI (mrn vs m t es N) a k := fun a k i1 i2 => by rw [b6 a (by omega) (by omega) (by omega), wI_o (.inl (by omega)), sI1 _ _ (by omega)]
      have VV2 := RT_C (C' := C1) (P' := D') VV bO bP (fun a j i1 i2 => s17 a j (.inl (by omega))) ⟨dt 15 (by decide) (by decide) (by decide) (by decide) (by decide), dt 16 (by decide) (by decide) (by decide) (by decide) (by decide), dt 22 (by decide) (by decide) (by decide) (by decide) (by decide), dt 24 (by decide) (by decide) (by decide) (by decide) (by decide)⟩ dr1
      have hef : ∀ s (h : s < (ceL es).length), (ceL es).getD s (0, 0) = (ceL es)[s] := fun s h => by simp [List.getD, h]
      have hcl : (ceL es).length ≤ 400 := by rw [ceL_cc]; exact hcc
      have PBD : PB m t D' := M2_B (PW.1 _).1 r5'
      have T3D := VV2.2.1
      have hk : ∀ s, s < (ceL es).length → ((ceL es).getD s (0, 0)).2 ≤ 400 ∨ ¬ nmP ((ceL es).getD s (0, 0)).1 := fun s hs => by
        by_cases c : nmP ((ceL es).getD s (0, 0)).1
        · rw [hef s hs] at c ⊢
          unfold nmP at c
          have cd : (((ceL es)[s]).1 = 2 ∨ ((ceL es)[s]).1 = 18) ∨ (((ceL es)[s]).1 = 4 ∨ ((ceL es)[s]).1 = 16 ∨ ((ceL es)[s]).1 = 17 ∨ ((ceL es)[s]).1 = 19) := by
            clear RA1 VV RA2 VV2 T3D
            omega
          obtain ⟨v1, v2, v3, v4⟩ := RA1.2.2.2.2.2.2 s hs
          have he4 : e ≤ 400 := Nat.le_trans k3 hK
          rcases cd with y | y
          · exact .inl (Nat.le_of_lt (Nat.lt_of_lt_of_le (v2 y).1 he4))
          · exact .inl (Nat.le_of_lt (Nat.lt_of_lt_of_le (v3 y).1 he4))
        · exact .inr c
      obtain ⟨Y, y1, y2⟩ := r111 (Z := Z) PBD T3D hcl hk (ceL es).length 0 D' (by omega) ⟨⟨rfl, rfl, rfl, rfl, rfl, fun _ _ => rfl⟩, fun s' hs' => by
        obtain ⟨w1, w2, w3⟩ := T3D.2 s' hs'
        exact ⟨w1, fun z => by rw [if_neg (Nat.not_lt_zero _)]; exact (w2 z).1, w3⟩⟩
      obtain ⟨pt1, pt2, pt3, pt4, pt5, pt6⟩ := y2.1
      have tr := fin_TR ht hef RA2 hq VV2 y2 hcl
      have hc45 : ∀ s (h : s < (ceL es).length), ((ceL es)[s]).1 < 45 := fun s h => by
        have := List.getElem_mem h
        exact ceL_m _ this
      obtain ⟨w1, w2, w3⟩ := fin_W hZ hef hc45 RA2 hq VV2 hcl
      have kz := kz_rn W es (fgM o M) CF RA1.1
      refine ⟨0, C1, Y, by decide, ?_, ?_, c2, nfr D' Y e r5' ⟨pt1, pt2, pt3, pt4, pt5⟩ (fun a _ h => pt6 a (by omega)) (fun j _ => by rw [pt6 m (by omega)]), .inr ⟨rfl, ?_, ?_, _, _, _, _, _, _, hcl, w1, w2, w3, tr, ?_⟩⟩
      · rw [c1, s17 _ _ (.inr (by decide)), RA1.1]; rfl
      · rw [rd, r4]; exact y1
      · rw [s17 _ _ (.inr (by decide)), kz.2, fgI _ _ (by omega)]
      · rw [pt6 m (by omega), b7 3, wI_o (.inr (by decide)), a7 3 (by decide) (by decide)]
      · obtain ⟨-, ⟨-, gb, gc⟩, ⟨-, fb, -⟩, -, ⟨-, pb, -⟩, -⟩ := RA2
        refine ⟨fun g hg => ?_, fun f hf => ?_, fun p hp k k1 k2 => ?_, fun i hi => ?_⟩
        · obtain ⟨u1, u2, u3, u4⟩ := gb g hg
          exact ⟨u2, u3, fun k hk => by rw [pt6 (t + 2) (by omega)]; exact (u4 k hk).1⟩
        · obtain ⟨u1, u2, u3, u4, u5, u6, -⟩ := fb f hf
          exact ⟨u2.trans u1.symm, u5, u6⟩
        · obtain ⟨u1, u2, u3, -⟩ := pb p hp
          exact u3 k k1 k2
        · have := (gc (i / 5) (by omega)).2 (i % 5) (by omega)
          rw [show 5 * (i / 5) + i % 5 = i by omega] at this
          rw [pt6 (t + 2) (by omega)]
          exact this
