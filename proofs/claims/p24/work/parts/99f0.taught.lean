/-! ## Pure: the class is taught the law's text -/
theorem sgw_c : ∀ c, c < 45 → (gSw c = 7 → c = 19) ∧ (gSw c = 7 ∨ gSw c = 15 ∨ gSw c = 16 ∨ gSw c = 17 → c = 4 ∨ c = 16 ∨ c = 17 ∨ c = 19) ∧ (gSw c = 18 ∨ gSw c = 19 → c = 2 ∨ c = 18) := by decide +kernel
theorem ceL_e : ∀ {a : List (Nat × Nat)} (y : Nat × Nat), y ∈ ceL a → y ∈ a
  | [], y, h => by cases h
  | x :: r, y, h => by
    rw [ceL] at h
    by_cases c : x.1 < 45
    · rw [if_pos c] at h
      rcases List.mem_cons.mp h with e | e
      · rw [e]; exact List.mem_cons_self
      · exact List.mem_cons_of_mem _ (ceL_e y e)
    · rw [if_neg c] at h; exact List.mem_cons_of_mem _ (ceL_e y h)
/-- what is left of a reading -/
def TCH (o : Nat) (s : List Nat × List Nat × List Nat × List (List Nat) × Nat) (M : gMem) : Prop :=
  (∀ g, g < s.1.length → ∃ r, r ≤ 8 ∧ cutF 86 o M (18 + 2 * g) 0 = nI r) ∧ s.2.2.2.1.length = s.2.2.1.length ∧
  ∀ p, p < s.2.2.1.length → cutF 86 o M (74 + 2 * p) 3 = nI (s.2.2.2.1.getD p []).length ∧ (s.2.2.2.1.getD p []).length ≤ 8 ∧ (∀ k, k < (s.2.2.2.1.getD p []).length → cutF 86 o M (75 + 2 * p) k = nI ((s.2.2.2.1.getD p []).getD k 0) ∧ (s.2.2.2.1.getD p []).getD k 0 < 8) ∧ ∀ k, 5 ≤ k → k < 8 → cutF 86 o M (74 + 2 * p) k = 0
set_option maxRecDepth 20000 in
theorem t_teach {Z : Nat → Nat} {b o o' n : Nat} {T : Nat → Nat} {M : gMem} (CV : CIv b o o' n T M) (hZ : ∀ a b : Nat, a < 45 → b < 45 → Z a = Z b → a = b) {a : List (List (Nat × Nat × List Nat) × List Nat × List (Nat × Nat))} {t : List Nat} {tv : List (Nat × Nat)} (LS : LNS a t tv) (ha : a.length ≤ 21) (hl : (flI a).length < 400) (hT : T = txF t) (hn : n = t.length) (wa : wkA ([], [], [], [], 0) tv) {F G np : Nat} (hG : (wkF ([], [], [], [], 0) tv).1.length = G) (hF : (wkF ([], [], [], [], 0) tv).2.1.length = F) (hnp : (wkF ([], [], [], [], 0) tv).2.2.1.length = np) :
    ∃ pg len ng M', f_X11_teach Z M b = some (nI 0, M') ∧ PSt Z pg b o' o 0 0 len F G np ng T M' ∧ DSt (cutF 86 o' M') np ∧ TCH o' (wkF ([], [], [], [], 0) tv) M' ∧ ((∀ x ∈ tv, x.1 ≠ 19) → ∀ i, i < len → gSw (pg i) ≠ 7) ∧ mN M' = mN M + 7 ∧ (∀ a, a < mN M → mT M' a = mT M a ∧ mL M' a = mL M a) ∧ ∀ a, a < mN M → (a < b ∨ b + 178 ≤ a) → mI M' a = mI M a ∧ mR M' a = mR M a ∧ mJ M' a = mJ M a := by
  obtain ⟨S, K, s1, s2, s3, s4, s5, ⟨s6, s6'⟩, s7, s8, s9, W7, B7, CF7, h6, h7, hx, h0, tch⟩ := C_teach CV hZ
  obtain ⟨⟨t0, r0, r1, r2⟩, oo, TPM, ⟨LC1, LC2, F1, F2, PS1, PS2⟩, hN⟩ := id CV
  obtain ⟨tk1, tk2⟩ := LNS_k LS hl
  rw [← hT, ← hn] at tk1 tk2
  obtain ⟨C1, D, qE, es, kk, rd1, CC, hev, I1, RA1, hq, hcl, PG1, WS1, WD1⟩ := told_ok W7 B7 CF7 h6 h7 hx (fun i => vsT_b) (fun i hi h => vsT_41 h) LS ha (fun i hi => ⟨(tk1 i hi).1, by
    obtain ⟨u1, u2⟩ := tk1 i hi
    unfold vsT
    by_cases z : kdA (flI a) i = 40 ∨ kdA (flI a) i = 41
    · rw [if_pos (by rw [u1]; exact z), u2 z]; rfl
    · rw [if_neg (by rw [u1]; exact z)]; unfold vlA; rw [if_neg z]⟩) tk2 wa
  obtain ⟨n1, n2, n3, n4⟩ := wkF_nm (vs := vsT T n) es ([], [], [], [], 0)
  rw [hev] at n1 n2 n3 n4
  have eG : (tks 1 es).length = G := by rw [← hG, n1, List.nil_append, List.length_map]
  have eF : (tks 2 es).length = F := by rw [← hF, n2, List.nil_append, List.length_map]
  have eP : (tks 3 es).length = np := by rw [← hnp, n3, List.nil_append, List.length_map]
  generalize nc 54 es = ng at *
  have RA2 := RA1
  obtain ⟨q7, RG1, RF1, RO1, RP1, RV1⟩ := RA2
  have hG8 : G ≤ 8 := by rw [← eG]; exact RG1.1.1.2.1
  have hF8 : F ≤ 8 := by rw [← eF]; exact RF1.1.1.2.1
  have hp6 : np ≤ 6 := by rw [← eP]; exact RP1.1.2.2.2.1
  rw [eG, eF, eP] at WS1
  rw [eG, eF] at WD1
  -- what the reading left of the memory
  have n0 : mN (nW S 6 0) = mN M + 1 := by rw [← s5]; rfl
  obtain ⟨f1, f2, f3, f4, f5⟩ := rd_f (r := mN M) (x1 := some (b + 1)) (x2 := some o') n0
  obtain ⟨⟨c1, c2, c3⟩, cR, cI, cJ, cS⟩ := id CC
  have cN : mN C1 = mN M + 7 := c3.trans f1
  have FT : ∀ a, a < mN M → mT C1 a = mT M a := fun a h => by
    rw [c1, (f2 a (by omega)).1]
    show (if a = mN S then 6 else mT S a) = _
    rw [if_neg (by omega), s6]
  have FL : ∀ a, a < mN M → mL C1 a = mL M a := fun a h => by
    rw [c2, (f2 a (by omega)).2.1]
    show (if a = mN S then 0 else mL S a) = _
    rw [if_neg (by omega), s6']
  have FRR : ∀ a, a < mN M → a ≠ o' + 6 → a ≠ b + 3 → mR C1 a = mR M a := fun a h h2 h3 => by
    rw [cR a h2, ((f2 a (by omega)).2.2.2 h).2]
    show (if a = mN S then (fun _ => none) else mR S a) = _
    rw [if_neg (by omega), s8 a h3]
  have FI : ∀ a, a < mN M → ¬ rg (mN M) o' a → a ≠ b + 4 → a ≠ b + 1 → mI C1 a = mI M a := fun a h h2 h3 h4 => by
    rw [cI a h2, ((f2 a (by omega)).2.2.2 h).1]
    show (if a = mN S then (fun _ => (0 : Int32)) else mI S a) = _
    rw [if_neg (by omega)]
    funext k
    exact s7 a k h3 (.inl h4)
  have FJ : ∀ a, a < mN M → a ≠ b + 5 → mJ C1 a = mJ M a := fun a h h2 => by
    rw [cJ a (.inl h), (f2 a (by omega)).2.2.1]
    show (if a = mN S then (fun _ => (0 : Int64)) else mJ S a) = _
    rw [if_neg (by omega), s9 a h2]
  have tc := tch 0 C1 (by decide) rd1 CC
  rw [if_pos rfl] at tc
  obtain ⟨M1, hM1⟩ : ∃ M1, M1 = tcB b o o' (tcA b (mN M) C1) := ⟨_, rfl⟩
  rw [← hM1] at tc
  have eT : mT M1 = mT C1 := by rw [hM1]; rfl
  have eL : mL M1 = mL C1 := by rw [hM1]; rfl
  have eJ : mJ M1 = mJ C1 := by rw [hM1]; rfl
  have eN : mN M1 = mN M + 7 := by rw [hM1]; exact cN
  have eI : ∀ a k, (a ≠ b ∨ k ≠ 3) → (a ≠ b + 1 ∨ k ≠ 0) → (a ≠ o' ∨ 2 ≤ k) → mI M1 a k = mI C1 a k := fun a k i1 i2 i3 => by
    rw [hM1]
    unfold tcB tcA
    show mI (wI (wI (wI (wI C1 b 3 (mI C1 (mN M) 0)) (b + 1) 0 0) o' 0 _) o' 1 _) a k = _
    rw [wI_o (by omega), wI_o (by omega), wI_o i2, wI_o i1]
  have eR : ∀ a, a ≠ b → mR M1 a = mR C1 a := fun a i1 => by
    rw [hM1]
    funext k
    show (if a = b ∧ k = 2 then some o else if a = b ∧ k = 1 then some o' else mR C1 a k) = _
    rw [if_neg (fun z => i1 z.1), if_neg (fun z => i1 z.1)]
  have ep0 : mI M1 (b + 1) 0 = 0 := by
    rw [hM1]
    unfold tcB tcA
    show mI (wI (wI (wI (wI C1 b 3 (mI C1 (mN M) 0)) (b + 1) 0 0) o' 0 _) o' 1 _) (b + 1) 0 = _
    rw [wI_o (.inl (by omega)), wI_o (.inl (by omega)), wI_e]
  have rb : mR M1 b 0 = some (b + 1) ∧ mR M1 b 1 = some o' ∧ mR M1 b 2 = some o := by
    rw [hM1]
    refine ⟨?_, ?_, ?_⟩
    · show (if b = b ∧ 0 = 2 then some o else if b = b ∧ 0 = 1 then some o' else mR C1 b 0) = _
      rw [if_neg (by omega), if_neg (by omega), FRR b (by omega) (by omega) (by omega)]; exact r0
    · show (if b = b ∧ 1 = 2 then some o else if b = b ∧ 1 = 1 then some o' else mR C1 b 1) = _
      rw [if_neg (by omega), if_pos ⟨rfl, rfl⟩]
    · show (if b = b ∧ 2 = 2 then some o else if b = b ∧ 2 = 1 then some o' else mR C1 b 2) = _
      rw [if_pos ⟨rfl, rfl⟩]
  have tX : ∀ a, a < mN M → mT M1 a = mT M a ∧ mL M1 a = mL M a := fun a i => ⟨by rw [eT]; exact FT a i, by rw [eL]; exact FL a i⟩
  have rX : ∀ a, a < mN M → a ≠ b → a ≠ o' + 6 → a ≠ b + 3 → mR M1 a = mR M a := fun a i i1 i2 i3 => by rw [eR a i1]; exact FRR a i i2 i3
  have iX : ∀ a, a < mN M → a ≠ b → a ≠ b + 1 → a ≠ b + 4 → a ≠ o' → ¬ rg (mN M) o' a → mI M1 a = mI M a := fun a i i1 i2 i3 i4 i5 => by
    rw [← FI a i i5 i3 i2]
    funext k
    exact eI a k (.inl i1) (.inl i2) (.inl i4)
  have PSn : PSz o' C1 := cS.2.2.2.2.2.2
  have LX : LC o M1 := LC_e LC1 (fun d hd => ⟨(tX _ (by omega)).1, (tX _ (by omega)).2, fun _ => rX _ (by omega) (by omega) (by omega) (by omega)⟩)
  have LX' : LC o' M1 := LC_e LC2 (fun d hd => ⟨(tX _ (by omega)).1, (tX _ (by omega)).2, fun z => rX _ (by omega) (by omega) (by omega) (by omega)⟩)
  have FX : FRS o M1 := FRS_e F1 (fun d i1 i2 => iX _ (by omega) (by omega) (by omega) (by omega) (by omega) (by unfold rg; omega))
  have FX' : FRS o' M1 := FRS_e F2 (fun d i1 i2 => iX _ (by omega) (by omega) (by omega) (by omega) (by omega) (by unfold rg; omega))
  have PX : PSz o M1 := PSz_e PS1 (fun d i1 i2 => iX _ (by omega) (by omega) (by omega) (by omega) (by omega) (by unfold rg; omega))
  have PX' : PSz o' M1 := PSz_e PSn (fun d i1 i2 => by
    funext k
    exact eI _ k (.inl (by omega)) (.inl (by omega)) (.inl (by omega)))
  have TX : TP (b + 1) 0 T M1 (mI M1) (mR M1) := TP_0 TPM (fun j hj => tX _ (by omega)) (rX _ (by omega) (by omega) (by omega) (by omega)) ep0
  have CV1 : CIv b o' o 0 T M1 := ⟨⟨(tX b (by omega)).1.trans t0, rb⟩, by omega, TX, ⟨LX', LX, FX', FX, PX', PX⟩, by omega⟩
  -- the new shore
  have shI : ∀ d k, d < 86 → (d ≠ 0 ∨ 2 ≤ k) → cutF 86 o' M1 d k = mI C1 (o' + d) k := fun d k hd hk => by
    rw [cutF_e hd]
    exact eI _ k (.inl (by omega)) (.inl (by omega)) (by omega)
  have h1A : ∀ d, 1 ≤ d → d < 86 → cutF 86 o' M1 d = (fun d k => mI C1 (o' + d) k) d := fun d d1 d2 => by
    funext k
    exact shI d k d2 (.inl (by omega))
  have h0A : ∀ k, 2 ≤ k → cutF 86 o' M1 0 k = (fun d k => mI C1 (o' + d) k) 0 k := fun k hk => shI 0 k (by omega) (.inr hk)
  have PG2 := PG_cg h1A (show mR M1 (o' + 6) = mR C1 (o' + 6) from eR _ (by omega)) PG1
  have WS2 := WS_cg h1A h0A WS1
  have WD2 := WD_cg h1A hF8 hG8 WD1
  have b04 : qE.2.1 ≠ 1 := by have := hq.1; omega
  have SV : SVa 0 (cutF 86 o' M1) F G := by
    refine ⟨fun f hf => ⟨0, Nat.le_refl _, ?_⟩, fun g hg => ?_, fun f hf => ?_, fun f hf => ?_⟩
    · obtain ⟨-, -, -, -, z5, -⟩ := RF1.2.1 f (by omega)
      rw [shI _ _ (by omega) (.inl (by omega))]
      exact z5 4 (by decide) (by decide)
    · obtain ⟨-, -, z3, -⟩ := RG1.2.1 g (by omega)
      rw [shI _ _ (by omega) (.inl (by omega)), z3]
      refine (sumN_z F (fun f hf => ?_)).symm
      obtain ⟨-, -, -, -, -, z6, -⟩ := RF1.2.1 f (by omega)
      rw [shI _ _ (by omega) (.inl (by omega))]
      exact z6 g (by omega)
    · obtain ⟨-, -, -, -, z5, z6, -⟩ := RF1.2.1 f (by omega)
      rw [shI _ _ (by omega) (.inl (by omega)), show mI C1 (o' + (34 + 2 * f)) 8 = 0 from z5 8 (by decide) (by decide)]
      refine (sumN_z G (fun g hg => ?_)).symm
      rw [shI _ _ (by omega) (.inl (by omega))]
      exact z6 g (by omega)
    · obtain ⟨z1, -, -, -, -, -, ⟨m, m1, m2, m3⟩, -⟩ := RF1.2.1 f (by omega)
      refine ⟨m, by omega, by omega, ?_⟩
      rw [shI _ _ (by omega) (.inl (by omega)), z1]; exact m3
  have c9 : ∀ f, f < F → cutF 86 o' M1 (34 + 2 * f) 9 = 0 ∨ cutF 86 o' M1 (34 + 2 * f) 9 = 1 := fun f hf => by
    obtain ⟨-, -, -, -, z5, -⟩ := RF1.2.1 f (by omega)
    left
    rw [shI _ _ (by omega) (.inl (by omega))]
    exact z5 9 (by decide) (by decide)
  have pgE : ∀ s (h : s < (ceL es).length), ((ceL es).getD s (0, 0)) = (ceL es)[s] := fun s h => by
    rw [List.getD_eq_getElem?_getD, List.getElem?_eq_getElem h]; rfl
  have c45 : ∀ s (h : s < (ceL es).length), ((ceL es)[s]).1 < 45 := fun s h => ceL_m _ (List.getElem_mem h)
  have VB1 : VB (fun s => ((ceL es).getD s (0, 0)).1) (cutF 86 o' M1) F G (ceL es).length := fun s hs => by
    obtain ⟨-, v2, v3, -⟩ := RV1.2 s hs
    have ss := sgw_c _ (c45 s hs)
    simp only [pgE s hs]
    rw [shI 7 s (by omega) (.inl (by omega))]
    refine ⟨fun z => ?_, fun z => ?_⟩
    · obtain ⟨-, j, j1, j2, -⟩ := v3 (ss.2.1 z)
      exact ⟨j, by omega, j2⟩
    · obtain ⟨-, j, j1, j2, -⟩ := v2 (ss.2.2 z)
      exact ⟨j, by omega, j2⟩
  refine ⟨_, (ceL es).length, ng, M1, tc, ⟨CV1, PG2, ⟨WS2, WD2, SV⟩, c9, VB1⟩, fun p hp n' hn8 hn' i j hij hj => ?_, ⟨fun g hg => ?_, ?_, fun p hp => ?_⟩, fun hno i hi e7 => ?_, eN, tX, fun a ha hab => ⟨iX a ha (by omega) (by omega) (by omega) (by omega) (by unfold rg; omega), rX a ha (by omega) (by omega) (by omega), by rw [eJ]; exact FJ a ha (by omega)⟩⟩
  · obtain ⟨-, -, -, ⟨n2', m1, m2, m3, m4, m5, m6⟩, b5⟩ := RP1.2.1 p (by omega)
    rw [shI _ _ (by omega) (.inl (by omega)), m3] at hn'
    have e := (nI_eq (by omega) (by omega)).mp hn'
    rw [shI _ _ (by omega) (.inl (by omega)), shI _ _ (by omega) (.inl (by omega)), b5 i (by omega), b5 j (by omega)]
    exact m6 i j hij (by omega)
  · obtain ⟨r, h1, h2⟩ := I1.1 g hg
    rw [hG] at hg
    exact ⟨r, h1, by rw [shI _ _ (by omega) (.inl (by omega))]; exact h2⟩
  · exact I1.2.1
  · obtain ⟨u1, u2, u3⟩ := I1.2.2 p hp
    rw [hnp] at hp
    refine ⟨by rw [shI _ _ (by omega) (.inl (by omega))]; exact u1, u2, fun k hk => by rw [shI _ _ (by omega) (.inl (by omega))]; exact u3 k hk, fun k k1 k2 => ?_⟩
    obtain ⟨-, -, b3, -⟩ := RP1.2.1 p (by omega)
    rw [shI _ _ (by omega) (.inl (by omega))]
    exact b3 k k1 k2
  · simp only [pgE i hi] at e7
    have c19 := (sgw_c _ (c45 i hi)).1 e7
    have hm := ceL_e _ (List.getElem_mem hi)
    have : (((ceL es)[i]).1, vsT T n ((ceL es)[i]).2) ∈ tv := by
      rw [← hev]
      exact List.mem_map.mpr ⟨_, hm, rfl⟩
    exact hno _ this c19
