/-! ## Pure: the relation of both objects -/
def cutF (n a : Nat) (M : gMem) : Nat → Nat → Int32 := fun d => if d < n then mI M (a + d) else fun _ => 0
theorem cutF_e {n a d : Nat} {M : gMem} (h : d < n) : cutF n a M d = mI M (a + d) := if_pos h
theorem sC_cut {o : Nat} {M : gMem} : sC o (cutF 86 o M) M = M := by
  have : (fun a k => if o ≤ a ∧ a < o + 86 then cutF 86 o M (a - o) k else mI M a k) = mI M := by
    funext a k
    by_cases h : o ≤ a ∧ a < o + 86
    · rw [if_pos h, cutF_e (by omega), show o + (a - o) = a by omega]
    · rw [if_neg h]
  show (mT M, mL M, (fun a k => if o ≤ a ∧ a < o + 86 then cutF 86 o M (a - o) k else mI M a k), mR M, mJ M, mN M) = M
  rw [this]
theorem bC_cut {n a : Nat} {M : gMem} : bC n a (cutF n a M) M = M := by
  have : (fun b k => if a ≤ b ∧ b < a + n then cutF n a M (b - a) k else mI M b k) = mI M := by
    funext b k
    by_cases h : a ≤ b ∧ b < a + n
    · rw [if_pos h, cutF_e (by omega), show a + (b - a) = b by omega]
    · rw [if_neg h]
  show (mT M, mL M, (fun b k => if a ≤ b ∧ b < a + n then cutF n a M (b - a) k else mI M b k), mR M, mJ M, mN M) = M
  rw [this]
theorem PK_cg {A A' : Nat → Nat → Int32} (h : ∀ d, 1 ≤ d → d < 86 → A' d = A d) (h0 : ∀ k, 2 ≤ k → A' 0 k = A 0 k) {np : Nat} (K : PK A np) : PK A' np :=
  ⟨by rw [h0 5 (by omega)]; exact K.1, K.2.1, fun p hp => by have := K.2.1; rw [h (74 + 2 * p) (by omega) (by omega)]; exact K.2.2 p hp⟩
theorem GO_cg {A A' : Nat → Nat → Int32} (h : ∀ d, 1 ≤ d → d < 86 → A' d = A d) (h0 : ∀ k, 2 ≤ k → A' 0 k = A 0 k) {ng : Nat} (K : GO A ng) : GO A' ng :=
  ⟨by rw [h0 4 (by omega)]; exact K.1, K.2.1, fun p hp => by have := K.2.1; rw [h (50 + p) (by omega) (by omega)]; exact K.2.2 p hp⟩
theorem WS_cg {A A' : Nat → Nat → Int32} (h : ∀ d, 1 ≤ d → d < 86 → A' d = A d) (h0 : ∀ k, 2 ≤ k → A' 0 k = A 0 k) {F G np ng : Nat} (W : WS A F G np ng) : WS A' F G np ng := by
  obtain ⟨a1, a2, a3, a4, a5, a6, a7, a8⟩ := W
  have n6 := a5.2.1
  have n24 := a6.2.1
  refine ⟨by rw [h0 2 (by omega)]; exact a1, a2, by rw [h0 3 (by omega)]; exact a3, a4, PK_cg h h0 a5, GO_cg h h0 a6, fun i hi => ?_, fun p hp => ?_⟩
  · rw [h (50 + i) (by omega) (by omega)]; exact a7 i hi
  · rw [h (74 + 2 * p) (by omega) (by omega), h (75 + 2 * p) (by omega) (by omega)]; exact a8 p hp
theorem WD_cg {A A' : Nat → Nat → Int32} (h : ∀ d, 1 ≤ d → d < 86 → A' d = A d) {F G : Nat} (hF : F ≤ 8) (hG : G ≤ 8) (W : WD A F G) : WD A' F G := by
  refine ⟨fun g hg s s1 s2 => ?_, fun f hf => ?_⟩
  · rw [h (19 + 2 * g) (by omega) (by omega)]; exact W.1 g hg s s1 s2
  · have := W.2 f hf
    unfold okF at this ⊢
    rw [h (34 + 2 * f) (by omega) (by omega)]; exact this
theorem SR_cg {pg : Nat → Nat} {len : Nat} {A A' : Nat → Nat → Int32} {code : Nat → Int32} {F G : Nat} {x y u v : Int32} (h : A' 7 = A 7) (S : SR pg len A code F G x y u v) : SR pg len A' code F G x y u v := by
  unfold SR at *
  rw [h]
  exact S
theorem TR_cg {A A' : Nat → Nat → Int32} (h : ∀ d, 1 ≤ d → d < 86 → A' d = A d) {pg : Nat → Nat} {len t F G np ng : Nat} {M M' : gMem} (hF : F ≤ 8) (hG : G ≤ 8) (hp6 : np ≤ 6) (hn : ng ≤ 24) (hM : ∀ j, j < 17 → mI M' (t + j) = mI M (t + j)) (T : TR pg len A M t F G np ng) : TR pg len A' M' t F G np ng := by
  obtain ⟨a1, a2, a3, a4, a5⟩ := T
  have h7 := h 7 (by omega) (by omega)
  have m0 : mI M' t = mI M t := hM 0 (by omega)
  refine ⟨by rw [m0]; exact a1, fun g hg => ?_, fun f hf => ?_, fun i hi => ?_, fun p hp => ?_⟩
  · rw [hM 1 (by omega), h (18 + 2 * g) (by omega) (by omega)]; exact a2 g hg
  · rw [hM 3 (by omega), hM 4 (by omega), hM 5 (by omega), h (34 + 2 * f) (by omega) (by omega)]; exact a3 f hf
  · obtain ⟨b1, b2, b3⟩ := a4 i hi
    rw [hM 6 (by omega), hM 7 (by omega), hM 11 (by omega), hM 12 (by omega), hM 15 (by omega), h (50 + i) (by omega) (by omega)]
    exact ⟨b1, b2, b3.imp id fun z => ⟨z.1, SR_cg h7 z.2⟩⟩
  · obtain ⟨b1, b2, b3, b4⟩ := a5 p hp
    rw [hM 8 (by omega), hM 9 (by omega), hM 10 (by omega), hM 13 (by omega), hM 14 (by omega), hM 15 (by omega), h (74 + 2 * p) (by omega) (by omega), h (75 + 2 * p) (by omega) (by omega)]
    exact ⟨b1, b2, b3, b4.imp id fun z => ⟨z.1, SR_cg h7 z.2⟩⟩
theorem RS_cg {A A' : Nat → Nat → Int32} (h : ∀ d, 1 ≤ d → d < 86 → A' d = A d) (h0 : A' 0 = A 0) {st st' : Nat → Nat → Int32} {F G np : Nat} (hF : F ≤ 8) (hG : G ≤ 8) (hp6 : np ≤ 6) (hs : ∀ d, d < 17 → st' d = st d) (R : RS A st F G np) : RS A' st' F G np := by
  obtain ⟨⟨a1, a2, a3, a4⟩, ⟨b1, b2, b3, b4, b5, b6⟩⟩ := R
  refine ⟨⟨?_, fun g k hg hk => ?_, fun g hg => ?_, fun f hf => ?_⟩, ⟨?_, fun i i1 i2 => ?_, fun g f hg hf => ?_, fun f hf => ?_, fun f f1 f2 => ?_, fun p hp => ?_⟩⟩
  · rw [hs 0 (by omega), h0]; exact a1
  · rw [hs 1 (by omega), h (19 + 2 * g) (by omega) (by omega)]; exact a2 g k hg hk
  · rw [hs 2 (by omega), h (18 + 2 * g) (by omega) (by omega)]; exact a3 g hg
  · rw [hs 4 (by omega), hs 5 (by omega), hs 6 (by omega), hs 9 (by omega), h (34 + 2 * f) (by omega) (by omega)]; exact a4 f hf
  · rw [hs 0 (by omega), h0]; exact b1
  · rw [hs 1 (by omega)]; exact b2 i i1 i2
  · rw [hs 3 (by omega), h (35 + 2 * f) (by omega) (by omega)]; exact b3 g f hg hf
  · rw [hs 7 (by omega), hs 8 (by omega), h (34 + 2 * f) (by omega) (by omega)]; exact b4 f hf
  · rw [hs 5 (by omega), hs 9 (by omega)]; exact b5 f f1 f2
  · rw [hs 10 (by omega), hs 11 (by omega), hs 12 (by omega), h (74 + 2 * p) (by omega) (by omega)]; exact b6 p hp
theorem PG_cg {A A' : Nat → Nat → Int32} (h : ∀ d, 1 ≤ d → d < 86 → A' d = A d) {Z pg : Nat → Nat} {o len : Nat} {M M' : gMem} (hR : mR M' (o + 6) = mR M (o + 6)) (P : PG Z pg o len M A) : PG Z pg o len M' A' := by
  obtain ⟨a, b, c, d⟩ := P
  refine ⟨a, fun i hi => ?_, by rw [h 5 (by omega) (by omega)]; exact c, d⟩
  rw [hR, h 7 (by omega) (by omega)]
  exact b i hi
theorem NEWA_cg {A A' : Nat → Nat → Int32} (h : ∀ d, 1 ≤ d → d < 86 → A' d = A d) {Y Y' : gMem} {t F G np : Nat} (hF : F ≤ 8) (hG : G ≤ 8) (hp6 : np ≤ 6) (hY : mI Y' (t + 2) = mI Y (t + 2)) (N : NEWA A Y t F G np) : NEWA A' Y' t F G np := by
  obtain ⟨a, b, c, d⟩ := N
  refine ⟨fun g hg => ?_, fun f hf => ?_, fun p hp => ?_, fun i hi => ?_⟩
  · rw [h (18 + 2 * g) (by omega) (by omega), h (19 + 2 * g) (by omega) (by omega), hY]; exact a g hg
  · rw [h (34 + 2 * f) (by omega) (by omega), h (35 + 2 * f) (by omega) (by omega)]; exact b f hf
  · rw [h (74 + 2 * p) (by omega) (by omega)]; exact c p hp
  · rw [hY]; exact d i hi
/-- what else holds of the Shore: stores below a bound, what was taken adds up -/
def SVa (kb : Nat) (A : Nat → Nat → Int32) (F G : Nat) : Prop := (∀ f, f < F → ∃ a, a ≤ kb ∧ A (34 + 2 * f) 4 = nI a) ∧ (∀ g, g < G → A (18 + 2 * g) 2 = sumN (fun f => A (35 + 2 * f) g) F) ∧ (∀ f, f < F → A (34 + 2 * f) 8 = sumN (fun g => A (35 + 2 * f) g) G) ∧ ∀ f, f < F → ∃ m, 1 ≤ m ∧ m ≤ 6 ∧ A (34 + 2 * f) 0 = nI m
theorem sumN_c {f h : Nat → Int32} : ∀ n, (∀ i, i < n → f i = h i) → sumN f n = sumN h n
  | 0, _ => rfl
  | n + 1, e => by rw [sumN, sumN, e n (Nat.lt_succ_self n), sumN_c n fun i hi => e i (by omega)]
theorem sumN_z {f : Nat → Int32} : ∀ n, (∀ i, i < n → f i = 0) → sumN f n = 0
  | 0, _ => rfl
  | n + 1, e => by rw [sumN, e n (Nat.lt_succ_self n), sumN_z n fun i hi => e i (by omega)]; rfl
theorem SVa_cg {A A' : Nat → Nat → Int32} {kb F G : Nat} (h : ∀ d, 18 ≤ d → d < 50 → A' d = A d) (hF : F ≤ 8) (hG : G ≤ 8) (S : SVa kb A F G) : SVa kb A' F G := by
  refine ⟨fun f hf => ?_, fun g hg => ?_, fun f hf => ?_, fun f hf => ?_⟩
  · rw [h (34 + 2 * f) (by omega) (by omega)]; exact S.1 f hf
  · rw [h (18 + 2 * g) (by omega) (by omega), S.2.1 g hg]
    exact sumN_c F fun i hi => by rw [h (35 + 2 * i) (by omega) (by omega)]
  · rw [h (34 + 2 * f) (by omega) (by omega), S.2.2.1 f hf, h (35 + 2 * f) (by omega) (by omega)]
  · rw [h (34 + 2 * f) (by omega) (by omega)]; exact S.2.2.2 f hf
theorem SVa_new {A : Nat → Nat → Int32} {Y : gMem} {kb t F G np : Nat} (hF : F ≤ 8) (hG : G ≤ 8) (N : NEWA A Y t F G np) (D : WD A F G) : SVa kb A F G := by
  obtain ⟨a, b, c, d⟩ := N
  refine ⟨fun f hf => ⟨0, Nat.zero_le _, ?_⟩, fun g hg => ?_, fun f hf => ?_, fun f hf => ?_⟩
  · rw [(b f hf).2.1 4 (by omega) (by omega)]; rfl
  · rw [(a g hg).2.1]
    exact (sumN_z F fun i hi => (b i hi).2.2 g (by omega)).symm
  · rw [(b f hf).2.1 8 (by omega) (by omega)]
    exact (sumN_z G fun i hi => (b f hf).2.2 i (by omega)).symm
  · rw [← (b f hf).1]
    exact (D.2 f hf).1
/-- what both have in common -/
def RELv (Z : Nat → Nat) (kb o m t : Nat) (M : gMem) : Prop := ∃ pg len F G np nO, len ≤ 400 ∧ PG Z pg o len M (cutF 86 o M) ∧ WS (cutF 86 o M) F G np nO ∧ WD (cutF 86 o M) F G ∧ TR pg len (cutF 86 o M) M t F G np nO ∧ RS (cutF 86 o M) (cutF 17 (m + 24) M) F G np ∧ SVa kb (cutF 86 o M) F G
theorem REL_fr {Z : Nat → Nat} {kb o m t : Nat} {M M' : gMem} (R : RELv Z kb o m t M) (h1 : ∀ d, d < 86 → mI M' (o + d) = mI M (o + d)) (h2 : mR M' (o + 6) = mR M (o + 6)) (h3 : ∀ j, j < 17 → mI M' (t + j) = mI M (t + j)) (h4 : ∀ j, j < 17 → mI M' (m + 24 + j) = mI M (m + 24 + j)) : RELv Z kb o m t M' := by
  obtain ⟨pg, len, F, G, np, nO, r1, r2, r3, r4, r5, r6, r7⟩ := R
  have hF : F ≤ 8 := r3.2.2.2.1
  have hG : G ≤ 8 := r3.2.1
  have hp6 : np ≤ 6 := r3.2.2.2.2.1.2.1
  have hn : nO ≤ 24 := r3.2.2.2.2.2.1.2.1
  have hA : ∀ d, d < 86 → cutF 86 o M' d = cutF 86 o M d := fun d hd => by rw [cutF_e hd, cutF_e hd, h1 d hd]
  have hS : ∀ d, d < 17 → cutF 17 (m + 24) M' d = cutF 17 (m + 24) M d := fun d hd => by rw [cutF_e hd, cutF_e hd, h4 d hd]
  have hA1 : ∀ d, 1 ≤ d → d < 86 → cutF 86 o M' d = cutF 86 o M d := fun d _ hd => hA d hd
  have hA0 := hA 0 (by omega)
  exact ⟨pg, len, F, G, np, nO, r1, PG_cg hA1 h2 r2, WS_cg hA1 (fun k _ => by rw [hA0]) r3, WD_cg hA1 hF hG r4, TR_cg hA1 hF hG hp6 hn h3 r5, RS_cg hA1 hA0 hF hG hp6 hS r6, SVa_cg (fun d i1 i2 => hA d (by omega)) hF hG r7⟩
/-- a new shore and a new state -/
theorem new_RS {A st : Nat → Nat → Int32} {Y : gMem} {pg : Nat → Nat} {len t F G np nO : Nat} (hF : F ≤ 8) (hG : G ≤ 8) (hp6 : np ≤ 6) (N : NEWA A Y t F G np) (T : TR pg len A Y t F G np nO) (h0 : st 0 0 = A 0 0 ∧ st 0 1 = A 0 1) (h1 : ∀ k, k < 40 → st 1 k = mI Y (t + 2) k) (h4 : ∀ k, k < 8 → st 4 k = mI Y (t + 3) k) (hz : ∀ j k, j < 9 → k < lenS (bgR j) → st (bgR j) k = 0) (h7 : ∀ k, k < 8 → st 7 k = -1) : RS A st F G np := by
  obtain ⟨a, b, c, d⟩ := N
  have z2 : ∀ k, k < 8 → st 2 k = 0 := fun k hk => hz 0 k (by decide) hk
  have z3 : ∀ k, k < 64 → st 3 k = 0 := fun k hk => hz 1 k (by decide) hk
  have z5 : ∀ k, k < 8 → st 5 k = 0 := fun k hk => hz 2 k (by decide) hk
  have z6 : ∀ k, k < 8 → st 6 k = 0 := fun k hk => hz 3 k (by decide) hk
  have z8 : ∀ k, k < 8 → st 8 k = 0 := fun k hk => hz 4 k (by decide) hk
  have z9 : ∀ k, k < 8 → st 9 k = 0 := fun k hk => hz 5 k (by decide) hk
  have z10 : ∀ k, k < 6 → st 10 k = 0 := fun k hk => hz 6 k (by decide) hk
  have z11 : ∀ k, k < 6 → st 11 k = 0 := fun k hk => hz 7 k (by decide) hk
  have z12 : ∀ k, k < 6 → st 12 k = 0 := fun k hk => hz 8 k (by decide) hk
  refine ⟨⟨h0.1, fun g k hg hk => ?_, fun g hg => ?_, fun f hf => ?_⟩, ⟨h0.2, fun i i1 i2 => ?_, fun g f hg hf => ?_, fun f hf => ?_, fun f f1 f2 => ⟨z5 f f2, z9 f f2⟩, fun p hp => ?_⟩⟩
  · rw [h1 _ (by omega), (a g hg).2.2 k hk]
  · rw [z2 g (by omega), (a g hg).1]
  · obtain ⟨e1, e2, e3⟩ := b f hf
    have m1 := (T.2.2.1 f hf).1
    rw [h4 f (by omega), m1, z5 f (by omega), z6 f (by omega), z9 f (by omega), e1, e2 4 (by decide) (by decide), e2 5 (by decide) (by decide), e2 9 (by decide) (by decide)]
    exact ⟨rfl, rfl, rfl, rfl, .inl rfl⟩
  · rw [h1 i i2]; exact d i i1
  · rw [z3 _ (by omega), (b f hf).2.2 g (by omega)]
  · obtain ⟨e1, e2, e3⟩ := b f hf
    rw [h7 f (by omega), z8 f (by omega), e2 6 (by decide) (by decide), e2 7 (by decide) (by decide)]
    exact ⟨rfl, rfl⟩
  · rw [z10 p (by omega), z11 p (by omega), z12 p (by omega), c p hp 5 (by decide) (by decide), c p hp 6 (by decide) (by decide), c p hp 7 (by decide) (by decide)]
    exact ⟨rfl, rfl, rfl⟩

