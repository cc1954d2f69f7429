/-! ## Pure: a round of the law, and all thirty -/
theorem alg_1 {s a y : Int32} : s + (y - a) = s - a + y := by
  rw [Int32.sub_eq_add_neg, Int32.sub_eq_add_neg, Int32.add_comm y, ← Int32.add_assoc]
section LAW
variable {Z pg : Nat → Nat} {b o o' kb len F G np ng : Nat} {T : Nat → Nat} {M : gMem} {B B' : Nat → Nat → Int32} {ms : Nat → List Nat} {kd : Nat → Nat} {N0 N KC KN t x K : Nat} {M0 : gMem} {x8 x9 : Int32} {c : Nat → Nat}
theorem mod_16 : ∀ t, t < 30 → nI t - nI t / (16 : Int32) * (16 : Int32) = nI (t % 16) := by decide +kernel
set_option maxRecDepth 50000 in
theorem w_139 (S : OB Z pg b o o' kb len F G np ng T B M) (I : INV B kb G np ms) (hN0 : N0 ≤ mN M) (Q : SHR b N0 x np K ms kd M) (hFW : FW b N0 M0 M) (hK : KC ≤ 600086 ∧ KN ≤ 7301442) (hkb : kb < 2 ^ 30) {kc kn who : Nat} {y : Int32} (hy : y = 0 ∨ y = 1) (hk : kc + 1243 ≤ KC ∧ kn + 7518 ≤ KN) (hw : who < F) (hG1 : 0 < G) (hm : ∀ p, p < np → (ms p).length ≤ 8 ∧ ∀ k, k < (ms p).length → (ms p).getD k 0 < F) (hr : np = 0 → (∀ j, j < K → ¬ (kd j = 3 ∨ kd j = 7)) → ∀ i, i < len → ¬ gSw (pg i) = 7) : RND Z pg b o o' (kb + 792) len F G np ng T ms N0 KC KN t M0 (b_L_law_139 Z M kc kn (some x) (some b) (nI F) (nI G) (nI np) (nI t) x8 (nI who) (cvA B F G 0 8 - fvA B who 8) y) := by
  obtain ⟨W, D, V⟩ := ob_W S
  have hF : F ≤ 8 := W.2.2.2.1
  have hG : G ≤ 8 := W.2.1
  have hp6 : np ≤ 6 := W.2.2.2.2.1.2.1
  obtain ⟨X, B', e1, S', C', hB⟩ := ob_cheat S hw hy
  have c9 : ∀ {kb' : Nat} {B : Nat → Nat → Int32} {M : gMem}, OB Z pg b o o' kb' len F G np ng T B M → ∀ f, f < F → B (34 + 2 * f) 9 = 0 ∨ B (34 + 2 * f) 9 = 1 := fun S f hf => by
    have := S.1.2.2.2.1 f hf
    rw [← S.2, nz_e (by omega)]; exact this
  have one : ∀ v : Int32, (v = 0 ∨ v = 1) → (if v = nI 0 then (0 : Int32) else 1) = v := fun v hv => by
    rcases hv with h | h <;> rw [h] <;> decide
  have sB : cvA B F G 0 8 = sumN (fun i => B (34 + 2 * i) 9) F := sumN_c F (fun i hi => one _ (c9 S i hi))
  have sB' : sumN (fun i => if B' (34 + 2 * i) 9 = nI 0 then (0 : Int32) else 1) F = sumN (fun i => B' (34 + 2 * i) 9) F := sumN_c F (fun i hi => one _ (c9 S' i hi))
  have up : sumN (fun i => up2 B (34 + 2 * who) 9 y (34 + 2 * i) 9) F = sumN (fun i => B (34 + 2 * i) 9) F + (y - B (34 + 2 * who) 9) := by
    refine sumN_up (i := who) ?_ (fun j hj => up2_ne (.inl (by omega))) F hw
    rw [up2_eq, alg_1, Int32.sub_self, Int32.zero_add]
  have eq1 : sumN (fun i => if B' (34 + 2 * i) 9 = nI 0 then (0 : Int32) else 1) F = cvA B F G 0 8 - fvA B who 8 + y := by
    rw [sB', sB, ← alg_1]
    have : sumN (fun i => B' (34 + 2 * i) 9) F = sumN (fun i => up2 B (34 + 2 * who) 9 y (34 + 2 * i) 9) F := sumN_c F (fun i hi => by rw [hB _ (by omega)])
    rw [this]; exact up
  have I' : INV B' kb G np ms := by
    obtain ⟨i1, i2, i3⟩ := I
    have r : ∀ d, d < 86 → d ≠ 34 + 2 * who → B' d = B d := fun d hd hd2 => by rw [hB d hd, up2_d hd2]
    refine ⟨fun g hg => by rw [r _ (by omega) (by omega)]; exact i1 g hg, fun p hp n hn en i j hi hj => ?_, fun p hp => ?_⟩
    · rw [r _ (by omega) (by omega)] at en ⊢
      exact i2 p hp n hn en i j hi hj
    · obtain ⟨j1, j2, j3, j4, j5⟩ := i3 p hp
      rw [r (74 + 2 * p) (by omega) (by omega), r (75 + 2 * p) (by omega) (by omega)]
      exact ⟨j1, j2, j3, j4, j5⟩
  have a8 : f_X11_fisher X b (nI who) (8 : Int32) = some (.inr y, X) := by
    have := ob_fisher S' hw (c := 8) (by omega)
    have e : fvA B' who 8 = y := by
      show B' (34 + 2 * who) 9 = y
      rw [hB _ (by omega), up2_eq]
    rw [e] at this; exact this
  have FX : FW b N0 M X := FW_c C'
  have W188 := w_188 (N := N0) (t := t) (kc := kc + 1 + 2) (kn := kn + 6 + 12) (x8 := x8) S' I' (by have := FX.2; omega) (Nat.le_refl _) (SHR_f Q FX (Nat.le_refl _)) (FW_t hFW FX) hK hkb ⟨by omega, by omega⟩ hw hG1 hm hr
  have e183 : b_L_law_183 Z X (kc + 1 + 2) (kn + 6 + 12) (some x) (some b) (nI F) (nI G) (nI np) (nI t) x8 (nI who) y y = b_L_law_188 Z X (kc + 1 + 2) (kn + 6 + 12) (some x) (some b) (nI F) (nI G) (nI np) (nI t) x8 (nI who) := by
    unfold b_L_law_183
    rw [if_pos rfl]
  have e161 : b_L_law_161 Z X (kc + 1) (kn + 6) (some x) (some b) (nI F) (nI G) (nI np) (nI t) x8 (nI who) y (cvA B F G 0 8 - fvA B who 8 + y) (cvA B F G 0 8 - fvA B who 8) y = b_L_law_188 Z X (kc + 1 + 2) (kn + 6 + 12) (some x) (some b) (nI F) (nI G) (nI np) (nI t) x8 (nI who) := by
    unfold b_L_law_161
    rw [if_pos rfl, dr_S, ck_t (ob_b S').2, ck_t (by omega), bx_s a8]
    rcases hy with h | h <;> subst h
    · rw [if_pos rfl]; exact e183
    · rw [if_neg (by decide)]; exact e183
  unfold b_L_law_139
  rw [dr_S, ck_t (ob_b S).2, ck_t (by omega), bx_s e1, eq1]
  rcases hy with h | h <;> subst h
  · rw [if_pos rfl, e161]; exact W188
  · rw [if_neg (by decide), e161]; exact W188
set_option maxRecDepth 50000 in
theorem w_59 (S : OB Z pg b o o' kb len F G np ng T B M) (I : INV B kb G np ms) (hN0 : N0 ≤ mN M) (Q : SHR b N0 x np K ms kd M) (hFW : FW b N0 M0 M) (hK : KC ≤ 600086 ∧ KN ≤ 7301442) (hkb : kb < 2 ^ 30) {kc kn : Nat} (hk : kc + 1250 ≤ KC ∧ kn + 7600 ≤ KN) (hF1 : 0 < F) (hG1 : 0 < G) (hm : ∀ p, p < np → (ms p).length ≤ 8 ∧ ∀ k, k < (ms p).length → (ms p).getD k 0 < F) (hr : np = 0 → (∀ j, j < K → ¬ (kd j = 3 ∨ kd j = 7)) → ∀ i, i < len → ¬ gSw (pg i) = 7) (hZ : Z 401 < 2 ^ 30) (ht : t < 30) : RND Z pg b o o' (kb + 792) len F G np ng T ms N0 KC KN t M0 (bb_L_law_59 Z M kc kn (some x) (some b) (nI F) (nI G) (nI np) (nI t)) := by
  obtain ⟨W, D, V⟩ := ob_W S
  have hF : F ≤ 8 := W.2.2.2.1
  have tb := (ob_b S).2
  have n30 : ¬ (30 : Int32) ≤ nI t := fun z => by have := (nI_leI (a := 30) (by omega) (by omega)).mp z; omega
  obtain ⟨v, hv⟩ : ∃ v, v = clZ Z (t % 16) >>> ((nI t / (16 : Int32) * (6 : Int32)) &&& 31) := ⟨_, rfl⟩
  obtain ⟨b1, b2⟩ := l_below (M := M) (v := v >>> ((3 : Int32) &&& 31)) (n := F) hF1 (by omega)
  generalize blw (v >>> ((3 : Int32) &&& 31)) F = who at b1 b2
  obtain ⟨b3, b4⟩ := l_below (M := M) (v := v) (n := 4) (by decide) (by decide)
  generalize blw v 4 = c4 at b3 b4
  obtain ⟨b5, b6⟩ := l_below (M := M) (v := v >>> ((5 : Int32) &&& 31)) (n := 2) (by decide) (by decide)
  generalize blw (v >>> ((5 : Int32) &&& 31)) 2 = c2 at b5 b6
  have b3' : f_L_below M v (4 : Int32) = some (nI c4, M) := b3
  have b5' : f_L_below M (v >>> ((5 : Int32) &&& 31)) (2 : Int32) = some (nI c2, M) := b5
  have a8 : f_X11_count M b (8 : Int32) = some (.inr (cvA B F G 0 8), M) := ob_count S (c := 8) (by omega)
  have f8 : f_X11_fisher M b (nI who) (8 : Int32) = some (.inr (fvA B who 8), M) := ob_fisher S b2 (c := 8) (by omega)
  have z4 : (nI c4 = (0 : Int32)) ↔ c4 = 0 := nI_eq (b := 0) (by omega) (by omega)
  have z2 : (nI c2 = (0 : Int32)) ↔ c2 = 0 := nI_eq (b := 0) (by omega) (by omega)
  unfold bb_L_law_59
  rw [if_neg n30, ck_t (by omega), mod_16 t ht, l_cell (by omega) hZ, bd_S, ← hv, ck_t (by omega), b1, bd_S, ck_t (by omega), b3', bd_S]
  by_cases y : c4 = 0
  · rw [if_pos (z4.mpr y), dr_S, ck_t tb, ck_t (by omega), bx_s a8, ck_t tb, ck_t (by omega), bx_s f8, ck_t (by omega), b5', bd_S]
    by_cases u : c2 = 0
    · rw [if_pos (z2.mpr u)]
      exact w_139 S I hN0 Q hFW hK hkb (.inr rfl) ⟨by omega, by omega⟩ b2 hG1 hm hr
    · rw [if_neg (fun z => u (z2.mp z))]
      exact w_139 S I hN0 Q hFW hK hkb (.inl rfl) ⟨by omega, by omega⟩ b2 hG1 hm hr
  · rw [if_neg (fun z => y (z4.mp z))]
    exact w_188 (N := N0) S I hN0 (Nat.le_refl _) Q hFW hK hkb ⟨by omega, by omega⟩ b2 hG1 hm hr
set_option maxRecDepth 50000 in
theorem w_lp59 (S : OB Z pg b o o' 0 len F G np ng T B M) (I : INV B 0 G np ms) (Q : SHR b (mN M) x np K ms kd M) {kc kn : Nat} (hk : kc + 37500 ≤ 600086 ∧ kn + 228000 ≤ 7301442) (hF1 : 0 < F) (hG1 : 0 < G) (hm : ∀ p, p < np → (ms p).length ≤ 8 ∧ ∀ k, k < (ms p).length → (ms p).getD k 0 < F) (hr : np = 0 → (∀ j, j < K → ¬ (kd j = 3 ∨ kd j = 7)) → ∀ i, i < len → ¬ gSw (pg i) = 7) (hZ : Z 401 < 2 ^ 30) : ∃ M', lp_L_law_59 Z M kc kn (some x) (some b) (nI F) (nI G) (nI np) 0 = some (.inr 1, M') := by
  obtain ⟨q, ⟨M', kc', kn', B', rfl, f1, f2, f3, f4, f5⟩, hlp⟩ := lp_ex (f := fun (q : gMem × Nat × Nat × Int32) => bb_L_law_59 Z q.1 q.2.1 q.2.2.1 (some x) (some b) (nI F) (nI G) (nI np) q.2.2.2)
    (fun t q => ∃ M' kc' kn' B', q = (M', kc', kn', nI t) ∧ kc' ≤ kc + 1250 * t ∧ kn' ≤ kn + 7600 * t ∧ OB Z pg b o o' (792 * t) len F G np ng T B' M' ∧ INV B' (792 * t) G np ms ∧ FW b (mN M) M M') 30 (fun t q ht hq => by
      obtain ⟨M', kc', kn', B', rfl, f1, f2, f3, f4, f5⟩ := hq
      have h1 : 792 * t < 2 ^ 30 := by
        have : 792 * t ≤ 792 * 30 := Nat.mul_le_mul_left _ (by omega)
        omega
      have c1 : 1250 * t ≤ 1250 * 29 := Nat.mul_le_mul_left _ (by omega)
      have c2 : 7600 * t ≤ 7600 * 29 := Nat.mul_le_mul_left _ (by omega)
      obtain ⟨M2, kc2, kn2, B2, e1, e2, e3, e4, e5, e6⟩ := w_59 (KC := kc' + 1250) (KN := kn' + 7600) f3 f4 f5.2 (SHR_f Q f5 (Nat.le_refl _)) f5 ⟨by omega, by omega⟩ h1 (kc := kc') (kn := kn') ⟨Nat.le_refl _, Nat.le_refl _⟩ hF1 hG1 hm hr hZ ht
      refine ⟨_, e1, M2, kc2, kn2, B2, rfl, ?_, ?_, by rw [Nat.mul_succ]; exact e4, by rw [Nat.mul_succ]; exact e5, e6⟩
      · rw [Nat.mul_succ]; omega
      · rw [Nat.mul_succ]; omega) 30 0 (M, kc, kn, nI 0) (by omega) ⟨M, kc, kn, B, rfl, Nat.le_refl _, Nat.le_refl _, S, I, FW_r _ _ _⟩
  refine ⟨M', ?_⟩
  have key : lp_L_law_59 Z M kc kn (some x) (some b) (nI F) (nI G) (nI np) 0 = lp (fun (q : gMem × Nat × Nat × Int32) => bb_L_law_59 Z q.1 q.2.1 q.2.2.1 (some x) (some b) (nI F) (nI G) (nI np) q.2.2.2) (M', kc', kn', nI 30) := hlp
  rw [key]
  refine lp_oI ?_
  show bb_L_law_59 Z M' kc' kn' (some x) (some b) (nI F) (nI G) (nI np) (nI 30) = _
  unfold bb_L_law_59
  rw [if_pos (by decide), ck_t (by omega)]
end LAW
