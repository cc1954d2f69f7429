/-! ## Pure: both are taught -/
def HideP (p : Prop) : Prop := p
/-- the same cells below a bound, but for m's own row -/
theorem LS_e2 {m t a : Nat} {M X : gMem} (L : LSt m t a M) (B : Nat) (h : ∀ b, m ≤ b → b < B → mT X b = mT M b ∧ mL X b = mL M b ∧ (b ≠ m → mR X b = mR M b)) (h11 : mR X m 11 = mR M m 11) (hm : m < a) (ha : a + 17 ≤ B) (ht : t + 17 ≤ B) (hmt : m < t) : LSt m t a X := by
  obtain ⟨⟨a1, a2, a3, a4, a5⟩, b, c, d, e⟩ := L
  refine ⟨⟨by rw [(h a (by omega) (by omega)).1]; exact a1, by rw [(h a (by omega) (by omega)).2.2 (by omega)]; exact a2, by rw [(h m (by omega) (by omega)).1]; exact a3, by rw [h11]; exact a4, by rw [(h t (by omega) (by omega)).1]; exact a5⟩, b, fun j j1 j2 => ?_, fun j j1 j2 => ?_, fun k k1 k2 => ?_⟩
  · obtain ⟨x, y, z⟩ := c j j1 j2
    exact ⟨by rw [(h (a + j) (by omega) (by omega)).1]; exact x, by rw [(h (a + j) (by omega) (by omega)).2.1]; exact y, by rw [(h a (by omega) (by omega)).2.2 (by omega)]; exact z⟩
  · obtain ⟨x, y⟩ := d j j1 j2
    exact ⟨by rw [(h (t + j) (by omega) (by omega)).1]; exact x, by rw [(h (t + j) (by omega) (by omega)).2.1]; exact y⟩
  · rw [(h t (by omega) (by omega)).2.2 (by omega)]; exact e k k1 k2
theorem LC_e {o : Nat} {M X : gMem} (L : LC o M) (h : ∀ d, d < 86 → mT X (o + d) = mT M (o + d) ∧ mL X (o + d) = mL M (o + d) ∧ (d ≠ 6 → mR X (o + d) = mR M (o + d))) : LC o X := fun d hd => by
  obtain ⟨a, b, c⟩ := L d hd
  obtain ⟨h1, h2, h3⟩ := h d hd
  exact ⟨h1.trans a, h2.trans b, fun z k => by rw [h3 z]; exact c z k⟩
theorem FRS_e {o : Nat} {M X : gMem} (F : FRS o M) (h : ∀ d, 12 ≤ d → d < 18 → mI X (o + d) = mI M (o + d)) : FRS o X := by
  unfold FRS at *
  rw [h 12 (by omega) (by omega), h 13 (by omega) (by omega), h 14 (by omega) (by omega), h 15 (by omega) (by omega), h 16 (by omega) (by omega), h 17 (by omega) (by omega)]
  exact F
theorem PSz_e {o : Nat} {M X : gMem} (P : PSz o M) (h : ∀ d, 74 ≤ d → d < 86 → mI X (o + d) = mI M (o + d)) : PSz o X := fun q hq => by
  rw [h _ (by omega) (by omega)]
  exact P q hq
theorem MP_e {m n : Nat} {T : Nat → Nat} {M X : gMem} (P : MP m n T M (mI M) (mR M)) (h : ∀ j, j < 7 → mT X (m + j) = mT M (m + j) ∧ mL X (m + j) = mL M (m + j)) (hR : ∀ k, k < 9 → mR X m k = mR M m k) (h2 : mI X m 2 = nI n) (h1 : mI X (m + 1) = mI M (m + 1)) : MP m n T X (mI X) (mR X) := by
  obtain ⟨⟨a1, a2, a3, a4⟩, ⟨b1, b4, b5, b6, b7, b8⟩, c, d, e⟩ := P
  have t0 : mT X m = mT M m := (h 0 (by omega)).1
  exact ⟨⟨t0.trans a1, fun j j1 j2 => (h j j2).1.trans (a2 j j1 j2), (h 1 (by omega)).2.trans a3, fun j j1 j2 => (h j j2).2.trans (a4 j j1 j2)⟩, ⟨by rw [hR 1 (by omega)]; exact b1, by rw [hR 4 (by omega)]; exact b4, by rw [hR 5 (by omega)]; exact b5, by rw [hR 6 (by omega)]; exact b6, by rw [hR 7 (by omega)]; exact b7, by rw [hR 8 (by omega)]; exact b8⟩, h2, d, fun q hq => by rw [h1]; exact e q hq⟩
theorem MP_0 {m n : Nat} {T : Nat → Nat} {M X : gMem} (P : MP m n T M (mI M) (mR M)) (h : ∀ j, j < 7 → mT X (m + j) = mT M (m + j) ∧ mL X (m + j) = mL M (m + j)) (hR : ∀ k, k < 9 → mR X m k = mR M m k) (h2 : mI X m 2 = 0) : MP m 0 T X (mI X) (mR X) := by
  obtain ⟨⟨a1, a2, a3, a4⟩, ⟨b1, b4, b5, b6, b7, b8⟩, c, d, e⟩ := P
  have t0 : mT X m = mT M m := (h 0 (by omega)).1
  exact ⟨⟨t0.trans a1, fun j j1 j2 => (h j j2).1.trans (a2 j j1 j2), (h 1 (by omega)).2.trans a3, fun j j1 j2 => (h j j2).2.trans (a4 j j1 j2)⟩, ⟨by rw [hR 1 (by omega)]; exact b1, by rw [hR 4 (by omega)]; exact b4, by rw [hR 5 (by omega)]; exact b5, by rw [hR 6 (by omega)]; exact b6, by rw [hR 7 (by omega)]; exact b7, by rw [hR 8 (by omega)]; exact b8⟩, h2, by omega, fun q hq => absurd hq (Nat.not_lt_zero _)⟩
theorem TP_0 {p n : Nat} {T : Nat → Nat} {M X : gMem} (P : TP p n T M (mI M) (mR M)) (h : ∀ j, j < 5 → mT X (p + j) = mT M (p + j) ∧ mL X (p + j) = mL M (p + j)) (hR : mR X p = mR M p) (h2 : mI X p 0 = 0) : TP p 0 T X (mI X) (mR X) := by
  obtain ⟨⟨a0, a1, a2, a3, a4, a5, a6, a7, a8⟩, ⟨b1, b4, b5, b6⟩, c, d, e⟩ := P
  have t0 : mT X p = mT M p := (h 0 (by omega)).1
  exact ⟨⟨t0.trans a0, (h 1 (by omega)).1.trans a1, (h 1 (by omega)).2.trans a2, (h 2 (by omega)).1.trans a3, (h 2 (by omega)).2.trans a4, (h 3 (by omega)).1.trans a5, (h 3 (by omega)).2.trans a6, (h 4 (by omega)).1.trans a7, (h 4 (by omega)).2.trans a8⟩, ⟨by rw [hR]; exact b1, by rw [hR]; exact b4, by rw [hR]; exact b5, by rw [hR]; exact b6⟩, h2, by omega, fun q hq => absurd hq (Nat.not_lt_zero _)⟩
theorem T_teach {Z : Nat → Nat} {b o o' m t n kb : Nat} {T : Nat → Nat} {M : gMem} (CV : CIv b o o' n T M) (MV : MIv m t n T M) (RL : RELv Z kb o m t M) (hbm : b + 178 ≤ m) (hZ : ∀ a b : Nat, a < 45 → b < 45 → Z a = Z b → a = b) : ∃ er M1 M2 o1 o1' t1, er < 16 ∧ f_X11_teach Z M b = some (nI er, M1) ∧ f_X14_teach Z M1 m = some (nI er, M2) ∧ CIv b o1 o1' 0 T M2 ∧ MIv m t1 0 T M2 ∧ RELv Z kb o1 m t1 M2 ∧ mI M2 b 3 = mI M2 m 3 ∧ mN M ≤ mN M1 ∧ mN M1 ≤ mN M2 ∧ mN M2 ≤ mN M + 25 ∧ (∀ a, a < mN M → mT M2 a = mT M a ∧ mL M2 a = mL M a) := by
  obtain ⟨S, K, s1, s2, s3, s4, s5, ⟨s6, s6'⟩, s7, s8, s9, W7, B7, CF7, h6, h7, hx, h0, tch⟩ := C_teach CV hZ
  obtain ⟨⟨t0, r0, r1, r2⟩, oo, TPM, ⟨LC1, LC2, F1, F2, PS1, PS2⟩, hN⟩ := id CV
  obtain ⟨P, ⟨m11, m13, m14⟩, ⟨LA, LB⟩, ⟨v1, v2, v3, v4⟩⟩ := id MV
  obtain ⟨x, C1, rd1, CC⟩ := C_rd_ex W7 B7 CF7 h6
  -- what the reading left of the memory
  have n0 : mN (nW S 6 0) = mN M + 1 := by rw [← s5]; rfl
  obtain ⟨f1, f2, f3, f4, f5⟩ := rd_f (r := mN M) (x1 := some (b + 1)) (x2 := some o') n0
  obtain ⟨⟨c1, c2, c3⟩, cR, cI, cJ, cS⟩ := id CC
  have cN : mN C1 = mN M + 7 := c3.trans f1
  have FT : ∀ a, a < mN M → mT C1 a = mT M a := fun a h => by
    rw [c1, (f2 a (by omega)).1]
    show (if a = mN S then 6 else mT S a) = _
    rw [if_neg (by omega), s6]
  have FL : ∀ a, a < mN M → mL C1 a = mL M a := fun a h => by
    rw [c2, (f2 a (by omega)).2.1]
    show (if a = mN S then 0 else mL S a) = _
    rw [if_neg (by omega), s6']
  have FRR : ∀ a, a < mN M → a ≠ o' + 6 → a ≠ b + 3 → mR C1 a = mR M a := fun a h h2 h3 => by
    rw [cR a h2, ((f2 a (by omega)).2.2.2 h).2]
    show (if a = mN S then (fun _ => none) else mR S a) = _
    rw [if_neg (by omega), s8 a h3]
  have FI : ∀ a, a < mN M → ¬ rg (mN M) o' a → a ≠ b + 4 → a ≠ b + 1 → mI C1 a = mI M a := fun a h h2 h3 h4 => by
    rw [cI a h2, ((f2 a (by omega)).2.2.2 h).1]
    show (if a = mN S then (fun _ => (0 : Int32)) else mI S a) = _
    rw [if_neg (by omega)]
    funext k
    exact s7 a k h3 (.inl h4)
  have FJ : ∀ a, a < mN M → a ≠ b + 5 → mJ C1 a = mJ M a := fun a h h2 => by
    rw [cJ a (.inl h), (f2 a (by omega)).2.2.1]
    show (if a = mN S then (fun _ => (0 : Int64)) else mJ S a) = _
    rw [if_neg (by omega), s9 a h2]
  have r0C : mI C1 (mN M) 0 = mI C1 (mN M) 0 := rfl
  -- behind the class's teaching
  obtain ⟨M1, hM1⟩ : ∃ M1, M1 = (if x = 0 then tcB b o o' (tcA b (mN M) C1) else tcA b (mN M) C1) := ⟨_, rfl⟩
  have eT : mT M1 = mT C1 := by rw [hM1]; split <;> rfl
  have eL : mL M1 = mL C1 := by rw [hM1]; split <;> rfl
  have eJ : mJ M1 = mJ C1 := by rw [hM1]; split <;> rfl
  have eN : mN M1 = mN M + 7 := by rw [hM1]; split <;> exact cN
  have eI : ∀ a k, (a ≠ b ∨ k ≠ 3) → (a ≠ b + 1 ∨ k ≠ 0) → (a ≠ o' ∨ 2 ≤ k) → mI M1 a k = mI C1 a k := fun a k i1 i2 i3 => by
    rw [hM1]
    split
    · unfold tcB tcA
      show mI (wI (wI (wI (wI C1 b 3 (mI C1 (mN M) 0)) (b + 1) 0 0) o' 0 _) o' 1 _) a k = _
      rw [wI_o (by omega), wI_o (by omega), wI_o i2, wI_o i1]
    · unfold tcA
      rw [wI_o i2, wI_o i1]
  have eR : ∀ a, a ≠ b → mR M1 a = mR C1 a := fun a i1 => by
    rw [hM1]
    split
    · funext k
      show (if a = b ∧ k = 2 then some o else if a = b ∧ k = 1 then some o' else mR C1 a k) = _
      rw [if_neg (fun z => i1 z.1), if_neg (fun z => i1 z.1)]
    · rfl
  have eb3 : mI M1 b 3 = mI C1 (mN M) 0 := by
    rw [hM1]
    split
    · unfold tcB tcA
      show mI (wI (wI (wI (wI C1 b 3 (mI C1 (mN M) 0)) (b + 1) 0 0) o' 0 _) o' 1 _) b 3 = _
      rw [wI_o (.inl (by omega)), wI_o (.inl (by omega)), wI_o (.inl (by omega)), wI_e]
    · unfold tcA
      rw [wI_o (.inl (by omega)), wI_e]
  have ep0 : mI M1 (b + 1) 0 = 0 := by
    rw [hM1]
    split
    · unfold tcB tcA
      show mI (wI (wI (wI (wI C1 b 3 (mI C1 (mN M) 0)) (b + 1) 0 0) o' 0 _) o' 1 _) (b + 1) 0 = _
      rw [wI_o (.inl (by omega)), wI_o (.inl (by omega)), wI_e]
    · unfold tcA
      rw [wI_e]
  -- above the class nothing has changed
  have up : ∀ a, b + 178 ≤ a → a < mN M → mT M1 a = mT M a ∧ mL M1 a = mL M a ∧ mI M1 a = mI M a ∧ mR M1 a = mR M a ∧ mJ M1 a = mJ M a := fun a i1 i2 => by
    refine ⟨by rw [eT]; exact FT a i2, by rw [eL]; exact FL a i2, ?_, by rw [eR a (by omega)]; exact FRR a i2 (by omega) (by omega), by rw [eJ]; exact FJ a i2 (by omega)⟩
    rw [← FI a i2 (by unfold rg; omega) (by omega) (by omega)]
    funext k
    exact eI a k (by omega) (by omega) (by omega)
  have MV1 : MIv m t n T M1 := by
    refine ⟨MP_e P (fun j hj => ⟨(up (m + j) (by omega) (by omega)).1, (up (m + j) (by omega) (by omega)).2.1⟩) (fun k _ => by rw [(up m (by omega) (by omega)).2.2.2.1]) (by rw [(up m (by omega) (by omega)).2.2.1]; exact P.2.2.1) (up (m + 1) (by omega) (by omega)).2.2.1, ⟨by rw [(up m (by omega) (by omega)).2.2.2.1]; exact m11, by rw [(up m (by omega) (by omega)).2.2.2.1]; exact m13, by rw [(up m (by omega) (by omega)).2.2.2.1]; exact m14⟩, ⟨LS_e2 LA (mN M) (fun c i1 i2 => ⟨(up c (by omega) i2).1, (up c (by omega) i2).2.1, fun _ => (up c (by omega) i2).2.2.2.1⟩) (by rw [(up m (by omega) (by omega)).2.2.2.1]) (by omega) (by omega) (by omega) (by omega), LS_e2 LB (mN M) (fun c i1 i2 => ⟨(up c (by omega) i2).1, (up c (by omega) i2).2.1, fun _ => (up c (by omega) i2).2.2.2.1⟩) (by rw [(up m (by omega) (by omega)).2.2.2.1]) (by omega) (by omega) (by omega) (by omega)⟩, v1, by omega, by omega, v4⟩
  obtain ⟨N, NW, N3, mt⟩ := M_teach (Z := Z) MV1 s2 s3 s4
  obtain ⟨er, C2, Y, her, q1, q2, q3, q4, q5⟩ := RD_core W7 B7 CF7 h6 h7 hx NW (fun i => vsT_b)
  replace q5 := (show HideP _ from q5)
  have hxe : x = nI er ∧ C1 = C2 := by
    rw [rd1] at q1
    injection q1 with e
    injection e with e1 e2
    exact ⟨e1, e2⟩
  obtain ⟨hx1, hx2⟩ := hxe
  subst hx2
  obtain ⟨⟨te1, te0⟩, yfr, yN, yR, yI⟩ := mt er Y her q2 q4
  have tc := tch er C1 her q1 CC
  have x0 : x = 0 ↔ er = 0 := by
    rw [hx1]
    exact ⟨fun z => Classical.byContradiction fun w => nI_ne (b := 0) w (by omega) (by omega) z, fun z => by rw [z]; rfl⟩
  have tcM : f_X11_teach Z M b = some (nI er, M1) := by
    rw [tc, hM1]
    by_cases e0 : er = 0
    · rw [if_pos e0, if_pos (x0.mpr e0)]
    · rw [if_neg e0, if_neg (fun z => e0 (x0.mp z))]
  -- the class's cells behind both
  have clow : ∀ a, a < m → mT Y a = mT M1 a ∧ mL Y a = mL M1 a ∧ mJ Y a = mJ M1 a ∧ mR Y a = mR M1 a ∧ mI Y a = mI M1 a := fun a i => by
    obtain ⟨z1, z2, z3, z4, z5⟩ := yfr a (by omega)
    exact ⟨z1, z2, z3, z4 (by omega), z5 (.inl i)⟩
  have PSn : PSz o' C1 := cS.2.2.2.2.2.2
  -- the class's object in any memory that has its cells
  have cls : ∀ X oa ob, (∀ a, a < b + 178 → mT X a = mT M1 a ∧ mL X a = mL M1 a ∧ mR X a = mR M1 a ∧ mI X a = mI M1 a) → mN M ≤ mN X → (mR M1 b 1 = some oa ∧ mR M1 b 2 = some ob) → ((oa = o ∧ ob = o') ∨ (oa = o' ∧ ob = o)) → CIv b oa ob 0 T X := fun X oa ob hX hXN hr hab => by
    have tX : ∀ a, a < b + 178 → mT X a = mT M a ∧ mL X a = mL M a := fun a i => ⟨by rw [(hX a i).1, eT]; exact FT a (by omega), by rw [(hX a i).2.1, eL]; exact FL a (by omega)⟩
    have rX : ∀ a, a < b + 178 → a ≠ b → a ≠ o' + 6 → a ≠ b + 3 → mR X a = mR M a := fun a i i1 i2 i3 => by rw [(hX a i).2.2.1, eR a i1]; exact FRR a (by omega) i2 i3
    have iX : ∀ a, a < b + 178 → a ≠ b → a ≠ b + 1 → a ≠ b + 4 → a ≠ o' → ¬ rg (mN M) o' a → mI X a = mI M a := fun a i i1 i2 i3 i4 i5 => by
      rw [(hX a i).2.2.2, ← FI a (by omega) i5 i3 i2]
      funext k
      exact eI a k (.inl i1) (.inl i2) (.inl i4)
    have b0 : mR M1 b 0 = some (b + 1) := by
      rw [hM1]
      split
      · show (if b = b ∧ 0 = 2 then some o else if b = b ∧ 0 = 1 then some o' else mR C1 b 0) = _
        rw [if_neg (by omega), if_neg (by omega), FRR b (by omega) (by omega) (by omega)]; exact r0
      · show mR C1 b 0 = _
        rw [FRR b (by omega) (by omega) (by omega)]; exact r0
    have LX : LC o X := LC_e LC1 (fun d hd => ⟨(tX _ (by omega)).1, (tX _ (by omega)).2, fun _ => rX _ (by omega) (by omega) (by omega) (by omega)⟩)
    have LX' : LC o' X := LC_e LC2 (fun d hd => ⟨(tX _ (by omega)).1, (tX _ (by omega)).2, fun z => rX _ (by omega) (by omega) (by omega) (by omega)⟩)
    have FX : FRS o X := FRS_e F1 (fun d i1 i2 => iX _ (by omega) (by omega) (by omega) (by omega) (by omega) (by unfold rg; omega))
    have FX' : FRS o' X := FRS_e F2 (fun d i1 i2 => iX _ (by omega) (by omega) (by omega) (by omega) (by omega) (by unfold rg; omega))
    have PX : PSz o X := PSz_e PS1 (fun d i1 i2 => iX _ (by omega) (by omega) (by omega) (by omega) (by omega) (by unfold rg; omega))
    have PX' : PSz o' X := PSz_e PSn (fun d i1 i2 => by
      rw [(hX _ (by omega)).2.2.2]
      funext k
      exact eI _ k (.inl (by omega)) (.inl (by omega)) (.inl (by omega)))
    have TX : TP (b + 1) 0 T X (mI X) (mR X) := TP_0 TPM (fun j hj => tX _ (by omega)) (rX _ (by omega) (by omega) (by omega) (by omega)) (by rw [(hX (b + 1) (by omega)).2.2.2]; exact ep0)
    rcases hab with ⟨ha, hb⟩ | ⟨ha, hb⟩ <;> subst ha <;> subst hb
    · exact ⟨⟨(tX b (by omega)).1.trans t0, by rw [(hX b (by omega)).2.2.1]; exact b0, by rw [(hX b (by omega)).2.2.1]; exact hr.1, by rw [(hX b (by omega)).2.2.1]; exact hr.2⟩, oo, TX, ⟨LX, LX', FX, FX', PX, PX'⟩, by omega⟩
    · exact ⟨⟨(tX b (by omega)).1.trans t0, by rw [(hX b (by omega)).2.2.1]; exact b0, by rw [(hX b (by omega)).2.2.1]; exact hr.1, by rw [(hX b (by omega)).2.2.1]; exact hr.2⟩, by omega, TX, ⟨LX', LX, FX', FX, PX', PX⟩, by omega⟩
  by_cases e0 : er = 0
  · have e1 : x = 0 := x0.mpr e0
    have hM1' : M1 = tcB b o o' (tcA b (mN M) C1) := by rw [hM1, if_pos e1]
    unfold HideP at q5
    obtain ⟨-, q6, q7, pg, len, F, G, np, nO, u1, u2, u3, u4, u5, u6⟩ := q5.resolve_left (fun z => z.1 e0)
    clear q5
    obtain ⟨st', tm, b2, b3, b4, b5, b6, L24, L41⟩ := te0 e0
    obtain ⟨V, hV⟩ : ∃ V, V = wR (wI Y m 2 0) m 11 (some (mN M1)) := ⟨_, rfl⟩
    obtain ⟨X, hXX⟩ : ∃ X, X = bC 17 (m + 24) st' (bgA (m + 24) (mN M1 + 17) 9 (nW V 28 9)) := ⟨_, rfl⟩
    rw [← hV] at L24 L41 tm
    rw [← hXX] at tm
    have VT : mT V = mT Y := by rw [hV]; rfl
    have VL : mL V = mL Y := by rw [hV]; rfl
    have VN : mN V = mN M1 + 17 := by rw [hV]; exact yN
    have VR : ∀ a k, mR V a k = if a = m ∧ k = 11 then some (mN M1) else mR Y a k := fun a k => by rw [hV]; rfl
    have VI : ∀ a k, mI V a k = if a = m ∧ k = 2 then 0 else mI Y a k := fun a k => by rw [hV]; rfl
    obtain ⟨g1, g2, g3, g4, g5, g6, g7⟩ := bgA_f (a := m + 24) (N := mN M1 + 17) (M := nW V 28 9) 9
    have XT : ∀ a, a < mN M1 + 17 → mT X a = mT Y a ∧ mL X a = mL Y a := fun a ha => by
      refine ⟨?_, ?_⟩
      · rw [hXX]
        show mT (bgA (m + 24) (mN M1 + 17) 9 (nW V 28 9)) a = _
        rw [g1, ← VT]
        show (if a = mN V then 28 else mT V a) = _
        rw [if_neg (by omega)]
      · rw [hXX]
        show mL (bgA (m + 24) (mN M1 + 17) 9 (nW V 28 9)) a = _
        rw [g2, ← VL]
        show (if a = mN V then 9 else mL V a) = _
        rw [if_neg (by omega)]
    have XR : ∀ a, a < mN M1 + 17 → mR X a = mR V a := fun a ha => by
      rw [hXX]
      show mR (bgA (m + 24) (mN M1 + 17) 9 (nW V 28 9)) a = _
      rw [g6 a (by omega)]
      show (if a = mN V then (fun _ => none) else mR V a) = _
      rw [if_neg (by omega)]
    have XN : mN X = mN M1 + 18 := by
      rw [hXX]
      show mN (bgA (m + 24) (mN M1 + 17) 9 (nW V 28 9)) = _
      rw [g5]
      show mN V + 1 = _
      omega
    have XS : ∀ d, d < 17 → mI X (m + 24 + d) = st' d := fun d hd => by
      rw [hXX]
      funext k
      exact bC_I hd
    have XI : ∀ a, a < mN M1 + 17 → (a < m + 24 ∨ m + 41 ≤ a) → mI X a = mI V a := fun a ha h => by
      funext k
      rw [hXX, bC_Io (by omega), g3]
      show (if a = mN V then (fun _ => (0 : Int32)) else mI V a) k = _
      rw [if_neg (by omega)]
    have XI' : ∀ a, a < mN M1 + 17 → (a < m ∨ (m < a ∧ a < m + 24) ∨ m + 41 ≤ a) → mI X a = mI Y a := fun a ha h => by
      rw [XI a ha (by omega)]
      funext k
      rw [VI, if_neg (by omega)]
    have XR' : ∀ a, a < mN M1 + 17 → a ≠ m → mR X a = mR Y a := fun a ha h => by
      rw [XR a ha]
      funext k
      rw [VR, if_neg (fun z => h z.1)]
    have hF : F ≤ 8 := u3.2.2.2.1
    have hG : G ≤ 8 := u3.2.1
    have hp6 : np ≤ 6 := u3.2.2.2.2.1.2.1
    have hn24 : nO ≤ 24 := u3.2.2.2.2.2.1.2.1
    -- the new shore in the last memory
    have shI : ∀ d k, d < 86 → (d ≠ 0 ∨ 2 ≤ k) → mI X (o' + d) k = mI C1 (o' + d) k := fun d k hd hk => by
      rw [XI' _ (by omega) (by omega), (clow (o' + d) (by omega)).2.2.2.2]
      exact eI _ k (.inl (by omega)) (.inl (by omega)) (by omega)
    have o01 : ∀ k, k < 2 → mI X o' k = mI C1 o k := fun k hk => by
      rw [XI' _ (by omega) (by omega), (clow o' (by omega)).2.2.2.2, hM1']
      unfold tcB tcA
      show mI (wI (wI (wI (wI C1 b 3 (mI C1 (mN M) 0)) (b + 1) 0 0) o' 0 (mI (wI (wI C1 b 3 (mI C1 (mN M) 0)) (b + 1) 0 0) o 0)) o' 1 (mI (wI (wI C1 b 3 (mI C1 (mN M) 0)) (b + 1) 0 0) o 1)) o' k = _
      by_cases z : k = 0
      · rw [z, wI_o (.inr (by decide)), wI_e, wI_o (.inl (by omega)), wI_o (.inl (by omega))]
      · rw [show k = 1 by omega, wI_e, wI_o (.inl (by omega)), wI_o (.inl (by omega))]
    have h1A : ∀ d, 1 ≤ d → d < 86 → cutF 86 o' X d = (fun d k => mI C1 (o' + d) k) d := fun d d1 d2 => by
      rw [cutF_e d2]
      funext k
      exact shI d k d2 (.inl (by omega))
    have h0A : ∀ k, 2 ≤ k → cutF 86 o' X 0 k = (fun d k => mI C1 (o' + d) k) 0 k := fun k hk => by
      rw [cutF_e (by omega)]
      exact shI 0 k (by omega) (.inr hk)
    have told : ∀ j, j < 17 → mI X (mN M1 + j) = mI Y (mN M1 + j) := fun j hj => XI' _ (by omega) (by omega)
    have tr' := TR_cg (M' := X) h1A hF hG hp6 hn24 told u5
    have nw' := NEWA_cg (Y' := X) h1A hF hG hp6 (told 2 (by omega)) u6
    -- the old relation has the latest and the seed
    have old : mI M (m + 24) 0 = mI M o 0 ∧ mI M (m + 24) 1 = mI M o 1 := by
      obtain ⟨pg0, len0, F0, G0, np0, nO0, r1, r2, r3, r4, r5, r6, r7⟩ := RL
      have w1 := r6.1.1
      have w2 := r6.2.1
      rw [cutF_e (by omega), cutF_e (by omega)] at w1 w2
      exact ⟨w1, w2⟩
    have Co : mI C1 o = mI M o := FI o (by omega) (by unfold rg; omega) (by omega) (by omega)
    have st0 : st' 0 = mI M (m + 24) := by rw [b2, (up (m + 24) (by omega) (by omega)).2.2.1]
    have rs : RS (cutF 86 o' X) (cutF 17 (m + 24) X) F G np := by
      have hs : ∀ d, d < 17 → cutF 17 (m + 24) X d = st' d := fun d hd => by rw [cutF_e hd, XS d hd]
      refine new_RS hF hG hp6 nw' tr' ⟨?_, ?_⟩ (fun k hk => ?_) (fun k hk => ?_) (fun j k hj hk => ?_) (fun k hk => ?_)
      · rw [hs 0 (by omega), st0, cutF_e (by omega), old.1]
        show _ = mI X o' 0
        rw [o01 0 (by omega), Co]
      · rw [hs 0 (by omega), st0, cutF_e (by omega), old.2]
        show _ = mI X o' 1
        rw [o01 1 (by omega), Co]
      · rw [hs 1 (by omega), b3 k hk, told 2 (by omega)]
      · rw [hs 4 (by omega), b4 k hk, told 3 (by omega)]
      · rw [hs (bgR j) (by have := (bgR_1 j hj).2.1; omega)]; exact b5 j k hj hk
      · rw [hs 7 (by omega)]; exact b6 k hk
    refine ⟨er, M1, X, o', o, mN M1, her, tcM, tm, ?_, ?_, ?_, ?_, by omega, by omega, by omega, fun a ha => ⟨(XT a (by omega)).1.trans ((yfr a (by omega)).1.trans (by rw [eT]; exact FT a ha)), (XT a (by omega)).2.trans ((yfr a (by omega)).2.1.trans (by rw [eL]; exact FL a ha))⟩⟩
    · refine cls X o' o (fun a i => ?_) (by omega) ⟨?_, ?_⟩ (.inr ⟨rfl, rfl⟩)
      · obtain ⟨z1, z2, z3, z4, z5⟩ := clow a (by omega)
        exact ⟨(XT a (by omega)).1.trans z1, (XT a (by omega)).2.trans z2, (XR' a (by omega) (by omega)).trans z4, (XI' a (by omega) (by omega)).trans z5⟩
      · rw [hM1']
        show (if b = b ∧ 1 = 2 then some o else if b = b ∧ 1 = 1 then some o' else mR C1 b 1) = _
        rw [if_neg (by omega), if_pos ⟨rfl, rfl⟩]
      · rw [hM1']
        show (if b = b ∧ 2 = 2 then some o else if b = b ∧ 2 = 1 then some o' else mR C1 b 2) = _
        rw [if_pos ⟨rfl, rfl⟩]
    · have LX : ∀ a, (a = m + 24 ∨ a = m + 41) → LSt m (mN M1) a V → LSt m (mN M1) a X := fun a ha L => LS_e L (fun c hc => ⟨by rw [(XT c (by omega)).1, VT], by rw [(XT c (by omega)).2, VL], XR c (by omega)⟩) (by omega) (by omega) (by omega)
      have mRm : ∀ k, k ≠ 11 → k ≠ 12 → mR X m k = mR M1 m k := fun k h1 h2 => by
        rw [XR m (by omega), VR, if_neg (fun z => h1 z.2)]
        exact yR k h2
      refine ⟨MP_0 MV1.1 (fun j hj => ⟨(XT (m + j) (by omega)).1.trans (yfr (m + j) (by omega)).1, (XT (m + j) (by omega)).2.trans (yfr (m + j) (by omega)).2.1⟩) (fun k hk => mRm k (by omega) (by omega)) ?_, ⟨?_, ?_, ?_⟩, ⟨LX _ (.inl rfl) L24, LX _ (.inr rfl) L41⟩, by omega, by omega, by omega, .inr (by omega)⟩
      · rw [XI m (by omega) (by omega), VI, if_pos ⟨rfl, rfl⟩]
      · rw [XR m (by omega), VR, if_pos ⟨rfl, rfl⟩]
      · rw [mRm 13 (by decide) (by decide)]; exact MV1.2.1.2.1
      · rw [mRm 14 (by decide) (by decide)]; exact MV1.2.1.2.2
    · refine ⟨pg, len, F, G, np, nO, u1, PG_cg h1A ?_ u2, WS_cg h1A h0A u3, WD_cg h1A hF hG u4, tr', rs, SVa_new hF hG nw' (WD_cg h1A hF hG u4)⟩
      rw [XR' _ (by omega) (by omega), (clow (o' + 6) (by omega)).2.2.2.1, eR _ (by omega)]
    · have i1 : mI X b 3 = mI M1 b 3 := by rw [XI' b (by omega) (by omega), (clow b (by omega)).2.2.2.2]
      have i2 : mI X m 3 = mI Y m 3 := by rw [XI m (by omega) (by omega), VI, if_neg (by omega)]
      rw [i1, eb3, q6, h0, i2, q7, N3]
  · have e1 : ¬ x = 0 := fun z => e0 (x0.mp z)
    have hM1' : M1 = tcA b (mN M) C1 := by rw [hM1, if_neg e1]
    have rb : mR M1 b = mR M b := by
      rw [hM1']
      show mR C1 b = _
      exact FRR b (by omega) (by omega) (by omega)
    unfold HideP at q5
    obtain ⟨-, i, hi, q6, q7⟩ := q5.resolve_right (fun z => e0 z.1)
    clear q5
    refine ⟨er, M1, wI Y m 2 0, o, o', t, her, tcM, te1 e0, ?_, ?_, ?_, ?_, by omega, by show mN M1 ≤ mN Y; omega, by show mN Y ≤ _; omega, fun a ha => ⟨(yfr a (by omega)).1.trans (by rw [eT]; exact FT a ha), (yfr a (by omega)).2.1.trans (by rw [eL]; exact FL a ha)⟩⟩
    · refine cls _ _ _ (fun a i => ?_) (by show mN M ≤ mN Y; omega) ⟨by rw [rb]; exact r1, by rw [rb]; exact r2⟩ (.inl ⟨rfl, rfl⟩)
      obtain ⟨z1, z2, z3, z4, z5⟩ := clow a (by omega)
      exact ⟨z1, z2, z4, by rw [← z5]; funext k; exact wI_o (.inl (by omega))⟩
    · refine ⟨MP_0 MV1.1 (fun j hj => ⟨(yfr (m + j) (by omega)).1, (yfr (m + j) (by omega)).2.1⟩) (fun k hk => yR k (by omega)) (wI_e _ _ _ _), ⟨by show mR Y m 11 = _; rw [yR 11 (by decide)]; exact MV1.2.1.1, by show mR Y m 13 = _; rw [yR 13 (by decide)]; exact MV1.2.1.2.1, by show mR Y m 14 = _; rw [yR 14 (by decide)]; exact MV1.2.1.2.2⟩, ⟨LS_e2 MV1.2.2.1.1 (mN M1) (fun c i1 i2 => ⟨(yfr c i2).1, (yfr c i2).2.1, fun z => (yfr c i2).2.2.2.1 z⟩) (yR 11 (by decide)) (by omega) (by omega) (by omega) (by omega), LS_e2 MV1.2.2.1.2 (mN M1) (fun c i1 i2 => ⟨(yfr c i2).1, (yfr c i2).2.1, fun z => (yfr c i2).2.2.2.1 z⟩) (yR 11 (by decide)) (by omega) (by omega) (by omega) (by omega)⟩, v1, by show t + 17 ≤ mN Y; omega, by show m + 58 ≤ mN Y; omega, v4⟩
    · have yu : ∀ a, m + 7 ≤ a → a < mN M → mI (wI Y m 2 0) a = mI M a := fun a i1 i2 => by
        rw [← (up a (by omega) i2).2.2.1, ← (yfr a (by omega)).2.2.2.2 (by omega)]
        funext k
        exact wI_o (.inl (by omega))
      refine REL_fr RL (fun d hd => ?_) ?_ (fun j hj => yu _ (by omega) (by omega)) (fun j hj => yu _ (by omega) (by omega))
      · rw [← FI (o + d) (by omega) (by unfold rg; omega) (by omega) (by omega)]
        funext k
        rw [wI_o (.inl (by omega)), (clow (o + d) (by omega)).2.2.2.2]
        exact eI _ k (.inl (by omega)) (.inl (by omega)) (.inl (by omega))
      · show mR Y (o + 6) = _
        rw [(clow (o + 6) (by omega)).2.2.2.1, eR _ (by omega)]
        exact FRR _ (by omega) (by omega) (by omega)
    · rw [wI_o (.inl (by omega)), wI_o (.inr (by decide)), (clow b (by omega)).2.2.2.2, eb3, q6, q7]
