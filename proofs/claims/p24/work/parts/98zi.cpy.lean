/-! ## Pure: a copy of the class's Shore is as good as it -/
/-- the copy A1 of A -/
def CPY (A A1 : Nat → Nat → Int32) (F G np ng len : Nat) : Prop :=
  (∀ k, k < 6 → A1 0 k = A 0 k) ∧ A1 5 0 = A 5 0 ∧ (∀ k, k < len → A1 7 k = A 7 k) ∧
  (∀ g k, g < G → k < 3 → A1 (18 + 2 * g) k = A (18 + 2 * g) k) ∧ (∀ g k, g < G → 1 ≤ k → k < 6 → A1 (19 + 2 * g) k = A (19 + 2 * g) k) ∧
  (∀ f k, f < F → k < 10 → A1 (34 + 2 * f) k = A (34 + 2 * f) k) ∧ (∀ f k, f < F → k < 8 → A1 (35 + 2 * f) k = A (35 + 2 * f) k) ∧
  (∀ i k, i < ng → k < 4 → A1 (50 + i) k = A (50 + i) k) ∧
  (∀ p k, p < np → k < 8 → k ≠ 4 → A1 (74 + 2 * p) k = A (74 + 2 * p) k) ∧ ∀ p k, p < np → k < 8 → A1 (75 + 2 * p) k = A (75 + 2 * p) k
theorem WS_k {A A1 : Nat → Nat → Int32} {F G np ng len : Nat} (C : CPY A A1 F G np ng len) (W : WS A F G np ng) : WS A1 F G np ng := by
  obtain ⟨h0, h5, h7, hg, hh, hf, ht, hi, hp, hm⟩ := C
  obtain ⟨a1, a2, a3, a4, ⟨b1, b2, b3⟩, ⟨c1, c2, c3⟩, d, e⟩ := W
  refine ⟨by rw [h0 2 (by omega), a1], a2, by rw [h0 3 (by omega), a3], a4, ⟨by rw [h0 5 (by omega), b1], b2, fun p q => ?_⟩, ⟨by rw [h0 4 (by omega), c1], c2, fun i q => ?_⟩, fun i q => ?_, fun p q => ?_⟩
  · rw [hp p 3 q (by omega) (by omega), hp p 1 q (by omega) (by omega), hp p 2 q (by omega) (by omega)]
    exact b3 p q
  · rw [hi i 0 q (by omega), hi i 1 q (by omega), hi i 2 q (by omega), hi i 3 q (by omega)]
    exact c3 i q
  · rw [hi i 0 q (by omega), hi i 1 q (by omega)]
    exact d i q
  · obtain ⟨n, n1, n2, n3, n4⟩ := e p q
    exact ⟨n, n1, n2, by rw [hp p 3 q (by omega) (by omega), n3], fun i hi => by rw [hm p i q (by omega)]; exact n4 i hi⟩
theorem WD_k {A A1 : Nat → Nat → Int32} {F G np ng len : Nat} (C : CPY A A1 F G np ng len) (W : WD A F G) : WD A1 F G := by
  obtain ⟨h0, h5, h7, hg, hh, hf, ht, hi, hp, hm⟩ := C
  refine ⟨fun g q s s1 s2 => ?_, fun f q => ?_⟩
  · rw [hh g s q s1 (by omega)]; exact W.1 g q s s1 s2
  · have z := W.2 f q
    unfold okF at z ⊢
    rw [hf f 1 q (by omega), hf f 2 q (by omega), hf f 3 q (by omega)]
    exact z
theorem SR_k {pg : Nat → Nat} {len : Nat} {A A1 : Nat → Nat → Int32} {code : Nat → Int32} {F G : Nat} {x y u v : Int32} (h7 : ∀ k, k < len → A1 7 k = A 7 k) (S : SR pg len A code F G x y u v) : SR pg len A1 code F G x y u v := by
  obtain ⟨s, n, c, e1, e2, e3, e4, e5, e6, e7, e8⟩ := S
  refine ⟨s, n, c, e1, e2, e3, e4, e5, e6, fun j hj => ?_, e8⟩
  rw [h7 (s + j) (by omega)]
  exact e7 j hj
theorem TR_k {pg : Nat → Nat} {len : Nat} {A A1 : Nat → Nat → Int32} {M : gMem} {t F G np ng : Nat} (C : CPY A A1 F G np ng len) (T : TR pg len A M t F G np ng) : TR pg len A1 M t F G np ng := by
  obtain ⟨h0, h5, h7, hg, hh, hf, ht, hi, hp, hm⟩ := C
  obtain ⟨a1, a2, a3, a4, a5⟩ := T
  refine ⟨a1, fun g q => ?_, fun f q => ?_, fun i q => ?_, fun p q => ?_⟩
  · rw [hg g 0 q (by omega)]; exact a2 g q
  · rw [hf f 0 q (by omega), hf f 2 q (by omega), hf f 3 q (by omega)]; exact a3 f q
  · rw [hi i 0 q (by omega), hi i 1 q (by omega), hi i 2 q (by omega), hi i 3 q (by omega)]
    obtain ⟨b1, b2, b3⟩ := a4 i q
    exact ⟨b1, b2, b3.imp id fun z => ⟨z.1, SR_k h7 z.2⟩⟩
  · rw [hp p 0 q (by omega) (by omega), hp p 1 q (by omega) (by omega), hp p 2 q (by omega) (by omega), hp p 3 q (by omega) (by omega)]
    obtain ⟨b1, b2, b3, b4⟩ := a5 p q
    exact ⟨b1, b2, fun n k n8 e hk => by rw [hm p k q (by omega)]; exact b3 n k n8 e hk, b4.imp id fun z => ⟨z.1, SR_k h7 z.2⟩⟩
theorem RS_k {A A1 st : Nat → Nat → Int32} {F G np ng len : Nat} (hG : G ≤ 8) (C : CPY A A1 F G np ng len) (R : RS A st F G np) : RS A1 st F G np := by
  obtain ⟨h0, h5, h7, hg, hh, hf, ht, hi, hp, hm⟩ := C
  obtain ⟨⟨a1, a2, a3, a4⟩, ⟨b1, b2, b3, b4, b5, b6⟩⟩ := R
  refine ⟨⟨?_, fun g k q hk => ?_, fun g q => ?_, fun f q => ?_⟩, ⟨?_, b2, fun g f q q2 => ?_, fun f q => ?_, b5, fun p q => ?_⟩⟩
  · rw [h0 0 (by omega)]; exact a1
  · rw [hh g (k + 1) q (by omega) (by omega)]; exact a2 g k q hk
  · rw [hg g 1 q (by omega)]; exact a3 g q
  · rw [hf f 1 q (by omega), hf f 4 q (by omega), hf f 5 q (by omega), hf f 9 q (by omega)]; exact a4 f q
  · rw [h0 1 (by omega)]; exact b1
  · rw [ht f g q2 (by omega)]; exact b3 g f q q2
  · rw [hf f 6 q (by omega), hf f 7 q (by omega)]; exact b4 f q
  · rw [hp p 5 q (by omega) (by omega), hp p 6 q (by omega) (by omega), hp p 7 q (by omega) (by omega)]; exact b6 p q
theorem SVa_k {A A1 : Nat → Nat → Int32} {kb F G np ng len : Nat} (hG : G ≤ 8) (C : CPY A A1 F G np ng len) (S : SVa kb A F G) : SVa kb A1 F G := by
  obtain ⟨h0, h5, h7, hg, hh, hf, ht, hi, hp, hm⟩ := C
  refine ⟨fun f q => ?_, fun g q => ?_, fun f q => ?_, fun f q => ?_⟩
  · rw [hf f 4 q (by omega)]; exact S.1 f q
  · rw [hg g 2 q (by omega), S.2.1 g q]
    exact sumN_c F fun i i2 => (ht i g i2 (by omega)).symm
  · rw [hf f 8 q (by omega), S.2.2.1 f q]
    exact sumN_c G fun i i2 => (ht f i q (by omega)).symm
  · rw [hf f 0 q (by omega)]; exact S.2.2.2 f q
/-- what a look ahead leaves alone -/
def OFr (o' : Nat) (M X : gMem) : Prop := mT X = mT M ∧ mL X = mL M ∧ mJ X = mJ M ∧ mN X = mN M ∧ (∀ a, a ≠ o' + 6 → mR X a = mR M a) ∧ (∀ a, (a < o' ∨ o' + 86 ≤ a ∨ (o' + 12 ≤ a ∧ a < o' + 18)) → mI X a = mI M a) ∧ PSz o' X
theorem OFr_0 {o' : Nat} {M : gMem} (P : PSz o' M) : OFr o' M M := ⟨rfl, rfl, rfl, rfl, fun _ _ => rfl, fun _ _ => rfl, P⟩
theorem OFr_LC {o o' : Nat} {M X : gMem} (O : OFr o' M X) (L : LC o M) (h : o ≠ o' → o + 86 ≤ o' ∨ o' + 86 ≤ o) : LC o X := LC_e L fun d hd => ⟨by rw [O.1], by rw [O.2.1], fun h6 => O.2.2.2.2.1 _ (by
  by_cases q : o = o'
  · omega
  · have := h q
    omega)⟩
/-- the copy of the class -/
theorem c_copy {Z pg : Nat → Nat} {o o' len F G np ng : Nat} {M X : gMem} (L : LC o M) (L' : LC o' M) (ho : o + 86 ≤ o' ∨ o' + 86 ≤ o) (O : OFr o' M X) (P : PG Z pg o len M (cutF 86 o M)) (W : WS (cutF 86 o M) F G np ng) (PZ : PSz o M) (h9 : ∀ f, f < F → cutF 86 o M (34 + 2 * f) 9 = 0 ∨ cutF 86 o M (34 + 2 * f) 9 = 1) : ∃ X1, f_X7_copyFrom Z X o' (some o) = some ((), X1) ∧ OFr o' M X1 ∧ CPY (cutF 86 o M) (cutF 86 o' X1) F G np ng len ∧ PG Z pg o' len X1 (cutF 86 o' X1) := by
  have LX := OFr_LC O L (fun _ => ho)
  have LY := OFr_LC O L' (fun z => absurd rfl z)
  have hF : F ≤ 8 := W.2.2.2.1
  have hG : G ≤ 8 := W.2.1
  have hp6 : np ≤ 6 := W.2.2.2.2.1.2.1
  have hng : ng ≤ 24 := W.2.2.2.2.2.1.2.1
  have iM : ∀ d, d < 86 → mI X (o + d) = cutF 86 o M d := fun d hd => by rw [cutF_e hd]; exact O.2.2.2.2.2.1 _ (by omega)
  have i0 : mI X o = cutF 86 o M 0 := iM 0 (by omega)
  have rM : mR X (o + 6) = mR M (o + 6) := O.2.2.2.2.1 _ (by omega)
  refine ⟨cpV o' o len (cpD (cpB G F ng np) o' o X), s7_copy LX LY ho hG hF hng hp6 (by rw [i0]; exact W.1) (by rw [i0]; exact W.2.2.1) (by rw [i0]; exact W.2.2.2.2.2.1.1) (by rw [i0]; exact W.2.2.2.2.1.1) (fun f hf => by rw [iM _ (by omega)]; exact h9 f hf) P.1 (by rw [iM _ (by omega)]; exact P.2.2.1) P.2.2.2 (fun i hi => by rw [rM]; exact ⟨(P.2.1 i hi).1, (P.2.1 i hi).2.1⟩), ?_, ?_, ?_⟩
  · refine ⟨O.1, O.2.1, O.2.2.1, O.2.2.2.1, fun a ha => by rw [cpV_r ha]; exact O.2.2.2.2.1 a ha, fun a ha => ?_, fun q hq => ?_⟩
    · rw [← O.2.2.2.2.2.1 a ha, cpV_o (by omega) (by omega)]
      by_cases z : a < o' ∨ o' + 86 ≤ a
      · exact cpD_o z
      · obtain ⟨d, rfl⟩ : ∃ d, a = o' + d := ⟨a - o', by omega⟩
        funext k
        exact cpD_n (by unfold cpB; omega)
    · rw [cpV_o (by omega) (by omega)]
      by_cases z : cpB G F ng np (74 + 2 * q) 3
      · rw [cpD_i (by omega) z]
        obtain ⟨c, c1, c2⟩ := PZ q hq
        exact ⟨c, c1, by rw [O.2.2.2.2.2.1 _ (by omega)]; exact c2⟩
      · rw [cpD_n z]
        exact O.2.2.2.2.2.2 q hq
  · have ev : ∀ d k, d < 86 → d ≠ 5 → d ≠ 7 → cpB G F ng np d k → cutF 86 o' (cpV o' o len (cpD (cpB G F ng np) o' o X)) d k = cutF 86 o M d k := fun d k hd h5 h7 hc => by
      rw [cutF_e hd, cpV_o (by omega) (by omega), cpD_i hd hc, iM d hd]
    refine ⟨fun k hk => ev 0 k (by omega) (by omega) (by omega) (.inl ⟨rfl, hk⟩), ?_, fun k hk => ?_, fun g k q hk => ev _ k (by omega) (by omega) (by omega) (.inr (.inl ⟨by omega, by omega, .inl ⟨by omega, hk⟩⟩)), fun g k q k1 hk => ev _ k (by omega) (by omega) (by omega) (.inr (.inl ⟨by omega, by omega, .inr ⟨by omega, k1, hk⟩⟩)), fun f k q hk => ev _ k (by omega) (by omega) (by omega) (.inr (.inr (.inl ⟨by omega, by omega, .inl ⟨by omega, hk⟩⟩))), fun f k q hk => ev _ k (by omega) (by omega) (by omega) (.inr (.inr (.inl ⟨by omega, by omega, .inr ⟨by omega, hk⟩⟩))), fun i k q hk => ev _ k (by omega) (by omega) (by omega) (.inr (.inr (.inr (.inl ⟨by omega, by omega, hk⟩)))), fun p k q hk k4 => ev _ k (by omega) (by omega) (by omega) (.inr (.inr (.inr (.inr ⟨by omega, by omega, .inl ⟨by omega, by omega⟩⟩)))), fun p k q hk => ev _ k (by omega) (by omega) (by omega) (.inr (.inr (.inr (.inr ⟨by omega, by omega, .inr ⟨by omega, hk⟩⟩))))⟩
    · rw [cutF_e (by omega), ← iM 5 (by omega)]
      show (if _ then mI (cpD (cpB G F ng np) o' o X) (o + (o' + 5 - o')) 0 else _) = _
      rw [if_pos (Or.inl ⟨rfl, rfl⟩), Nat.add_sub_cancel_left, cpD_o (by omega)]
    · rw [cutF_e (by omega), ← iM 7 (by omega)]
      show (if _ then mI (cpD (cpB G F ng np) o' o X) (o + (o' + 7 - o')) k else _) = _
      rw [if_pos (Or.inr ⟨rfl, hk⟩), Nat.add_sub_cancel_left, cpD_o (by omega)]
  · refine ⟨P.1, fun i hi => ?_, ?_, P.2.2.2⟩
    · obtain ⟨p1, p2, p3⟩ := P.2.1 i hi
      refine ⟨p1, ?_, ?_⟩
      · show (if o' + 6 = o' + 6 ∧ i < len then mR X (o + 6) i else _) = _
        rw [if_pos ⟨rfl, hi⟩, rM]
        exact p2
      · have e7 : cutF 86 o' (cpV o' o len (cpD (cpB G F ng np) o' o X)) 7 i = cutF 86 o M 7 i := by
          rw [cutF_e (by omega), ← iM 7 (by omega)]
          show (if _ then mI (cpD (cpB G F ng np) o' o X) (o + (o' + 7 - o')) i else _) = _
          rw [if_pos (Or.inr ⟨rfl, hi⟩), Nat.add_sub_cancel_left, cpD_o (by omega)]
        rw [e7]
        exact p3
    · rw [← P.2.2.1, cutF_e (by omega), ← iM 5 (by omega)]
      show (if _ then mI (cpD (cpB G F ng np) o' o X) (o + (o' + 5 - o')) 0 else _) = _
      rw [if_pos (Or.inl ⟨rfl, rfl⟩), Nat.add_sub_cancel_left, cpD_o (by omega)]

