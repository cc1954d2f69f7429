/-! ## Pure: rules for an own row beside the builder; texts that were made -/
/-- cells below N stay, but builders, bytes, and what E names of references -/
def FRo (N : Nat) (E : Nat → Nat → Prop) (M M' : gMem) : Prop := (∀ c, c < N → mT M' c = mT M c ∧ mL M' c = mL M c ∧ (mT M c ≠ 13 → mT M c ≠ 22 → mI M' c = mI M c ∧ ∀ j, ¬ E c j → mR M' c j = mR M c j)) ∧ mN M ≤ mN M'
theorem FRo_r (N : Nat) (E : Nat → Nat → Prop) (M : gMem) : FRo N E M M := ⟨fun _ _ => ⟨rfl, rfl, fun _ _ => ⟨rfl, fun _ _ => rfl⟩⟩, Nat.le_refl _⟩
theorem FRo_t {N : Nat} {E : Nat → Nat → Prop} {M X Y : gMem} (h : FRo N E M X) (k : FRo N E X Y) : FRo N E M Y := ⟨fun c hc => by
    obtain ⟨a1, a2, a3⟩ := h.1 c hc
    obtain ⟨b1, b2, b3⟩ := k.1 c hc
    refine ⟨b1.trans a1, b2.trans a2, fun h13 h22 => ?_⟩
    obtain ⟨c1, c2⟩ := a3 h13 h22
    obtain ⟨d1, d2⟩ := b3 (by rw [a1]; exact h13) (by rw [a1]; exact h22)
    exact ⟨d1.trans c1, fun j hj => (d2 j hj).trans (c2 j hj)⟩, Nat.le_trans h.2 k.2⟩
theorem FRo_F {N : Nat} {E : Nat → Nat → Prop} {M M' : gMem} (h : FRt M M') (hN : N ≤ mN M) : FRo N E M M' := ⟨fun c hc => by
    obtain ⟨a1, a2, a3⟩ := h.1 c (Nat.lt_of_lt_of_le hc hN)
    exact ⟨a1, a2, fun h13 h22 => ⟨(a3 h13 h22).1, fun j _ => by rw [(a3 h13 h22).2]⟩⟩, h.2⟩
theorem FRo_b {N : Nat} {E : Nat → Nat → Prop} {M M' : gMem} (h : FRb (mN M) M M') (hN : N ≤ mN M) : FRo N E M M' := FRo_F ⟨fun c hc => ⟨(h.1 c hc).1, (h.1 c hc).2.1, fun _ _ => ⟨(h.1 c hc).2.2.2.1, (h.1 c hc).2.2.2.2⟩⟩, h.2⟩ hN
theorem FRo_I {N w k : Nat} {E : Nat → Nat → Prop} {M : gMem} {v : Int32} (hw : N ≤ w) : FRo N E M (wI M w k v) := ⟨fun c hc => ⟨rfl, rfl, fun _ _ => ⟨(SM5_I (by omega)).2.2.1, fun _ _ => rfl⟩⟩, Nat.le_refl _⟩
theorem FRo_R {N w k : Nat} {E : Nat → Nat → Prop} {M : gMem} {v : Option Nat} (hw : E w k) : FRo N E M (wR M w k v) := ⟨fun c hc => ⟨rfl, rfl, fun _ _ => ⟨rfl, fun j hj => by
    by_cases e : c = w
    · subst e
      exact up2_ne (.inr (fun z => hj (by rw [z]; exact hw)))
    · exact up2_ne (.inl e)⟩⟩, Nat.le_refl _⟩
/-- while a line is made: the builder, the own row at w, what stays -/
def GS (N : Nat) (E : Nat → Nat → Prop) (M0 : gMem) (a x w n c : Nat) (L : List Nat) (M : gMem) : Prop := BS a x c L M ∧ OW x w n M ∧ FRo N E M0 M ∧ mI M x = mI M0 x ∧ N ≤ w
section RG
variable {Z : Nat → Nat} {N a x w n c B : Nat} {E : Nat → Nat → Prop} {L : List Nat} {M0 M : gMem} {β : Type} {P : Option β → Prop}
theorem GS_n {E : Nat → Nat → Prop} (S : BS a x c L M) : GS (mN M) E M a x (mN M) n c L (nW M 20 n) := ⟨BS_n S, OW_n S, FRo_b FRb_nW (Nat.le_refl _), by have := S.2.2.2.1; exact (SM5_n (by omega)).2.2.1, Nat.le_refl _⟩
theorem gs_w {kk v : Int32} {K : gMem → Option β} (G : GS N E M0 a x w n c L M) (hi : inb kk n) (h : ∀ M', GS N E M0 a x w n c L M' → mI M' w = (fun j => if j = kk.toNatClampNeg then v else mI M w j) → P (K M')) : P (ck (mT M w = 20) (ck (inb kk (mL M w)) (lw (wI M w kk.toNatClampNeg v) K))) := by
  obtain ⟨S, ⟨o1, o2, o3, o4⟩, F, ex, hw⟩ := G
  rw [ck_t o1, ck_t (by rw [o2]; exact hi), lw_S]
  refine h _ ⟨BS_I S o1, ⟨o1, o2, o3, o4⟩, FRo_t F (FRo_I hw), (SM5_I (by omega)).2.2.1.trans ex, hw⟩ (funext fun j => ?_)
  by_cases e : j = kk.toNatClampNeg
  · rw [if_pos e, e]; exact up2_eq _ _ _ _
  · rw [if_neg e]; exact up2_ne (.inr e)
theorem gs_N (G : GS N E M0 a x w n c L M) : N ≤ mN M := by have := G.2.1.2.2.2; have := G.2.2.2.2; omega
theorem GS_F {d : Nat} {Q : List Nat} {M' : gMem} (G : GS N E M0 a x w n c L M) (S : BS a x d Q M') (F : FRt M M') : GS N E M0 a x w n d Q M' ∧ mI M' w = mI M w := by
  obtain ⟨O, i⟩ := OW_f G.2.1 F
  exact ⟨⟨S, O, FRo_t G.2.2.1 (FRo_F F (gs_N G)), (FRt_x G.1 F).trans G.2.2.2.1, G.2.2.2.2⟩, i⟩
theorem gs_app {j e : Nat} {K : Option Nat → gMem → Option β} (G : GS N E M0 a x w n c L M) (hj : j < 94) (he : (sLs j).length ≤ e) (hc : c + e ≤ 1199) (h : ∀ M', GS N E M0 a x w n (c + e) (L ++ sLs j) M' → mI M' w = mI M w → FRt M M' → P (K (some a) M')) : P (bd (f_J4_append_15ec4_S Z M a j) K) :=
  r_app G.1 hj he hc (fun M' S F => h M' (GS_F G S F).1 (GS_F G S F).2 F)
theorem gs_int {y d : Nat} {z : Int32} {K : Option Nat → gMem → Option β} (G : GS N E M0 a x w n c L M) (hz : z = nI y) (hy : y < 1000) (hd : (dgL y).length ≤ d) (hc : c + d ≤ 1199) (h : ∀ M', GS N E M0 a x w n (c + d) (L ++ dgL y) M' → mI M' w = mI M w → FRt M M' → P (K (some a) M')) : P (bd (f_J4_append_bf812 Z M a z) K) :=
  r_int G.1 hz hy hd hc (fun M' S F => h M' (GS_F G S F).1 (GS_F G S F).2 F)
/-- what is known of the constants' addresses -/
def ZHy (Z : Nat → Nat) (B : Nat) : Prop := Z 401 < 2 ^ 30 ∧ (∀ j, j < 94 → Z (100 + j) < B) ∧ ∀ i j, i < 94 → j < 94 → Z (100 + i) = Z (100 + j) → sLs i = sLs j
theorem r_made {s q : Nat} {Q : List Nat} {M1 : gMem} {K : Option Nat → gMem → Option β} (S : BS a x c L M) (hB : ZHy Z B) (hx : B ≤ x) (F : FRb (mN M) M M1) (H : STR s (s + 1) Q M1) (hs : mN M ≤ s) (hq : Q.length ≤ q) (hc : c + q ≤ 1199) (h : ∀ M', BS a x (c + q) (L ++ Q) M' → FRt M1 M' → P (K (some a) M')) : P (bd (f_J4_append_15ec4_E Z M1 a (some s)) K) := by
  have hsx := S.2.2.2.1
  have hn : strZ Z (some s) = none := by
    cases e : strZ Z (some s) with
    | none => rfl
    | some i =>
      have e2 := strZ_eq e
      have hi : i < 94 := List.mem_range.mp (List.mem_of_find?_eq_some e)
      have := hB.2.1 i hi
      have e3 : s = Z (100 + i) := Option.some.inj e2
      omega
  unfold f_J4_append_15ec4_E
  rw [hn]
  obtain ⟨⟨v, S0⟩, hl, hS⟩ := S
  have ov := S0.2.2.1
  have S1 : BS a x c L M1 := BS_b ⟨⟨v, S0⟩, hl, hS⟩ F
  obtain ⟨⟨t1, r1, -, -⟩, -⟩ := S0
  obtain ⟨⟨v1, T⟩, -, hS1⟩ := S1
  have hv : v1 = v := by
    have z := T.1.2.1
    rw [(F.1 a (by omega)).2.2.2.2, r1] at z
    exact (Option.some.inj z).symm
  subst hv
  obtain ⟨v', M', e1, S', F', -, -⟩ := sb_apr (Z := Z) T H ⟨by omega, by omega⟩ ⟨by omega, by omega⟩ (by omega)
  have ft := FRt_v T F'
  show P (bd (f_J4_append_15ec4_r Z M1 a (some s)) K)
  rw [e1, bd_S]
  exact h M' ⟨⟨v', S'⟩, by rw [List.length_append]; omega, SIM_f hS1 ft⟩ ft
theorem r_const {j q : Nat} {K : Option Nat → gMem → Option β} (S : BS a x c L M) (hB : ZHy Z B) (hj : j < 94) (hq : (sLs j).length ≤ q) (hc : c + q ≤ 1199) (h : ∀ M', BS a x (c + q) (L ++ sLs j) M' → FRt M M' → P (K (some a) M')) : P (bd (f_J4_append_15ec4_E Z M a (some (Z (100 + j)))) K) := by
  have hs : ∃ i, strZ Z (some (Z (100 + j))) = some i ∧ i < 94 ∧ Z (100 + j) = Z (100 + i) := by
    cases e : strZ Z (some (Z (100 + j))) with
    | none =>
      have := List.find?_eq_none.mp e j (List.mem_range.mpr hj)
      exact absurd (by simp) this
    | some i => exact ⟨i, rfl, List.mem_range.mp (List.mem_of_find?_eq_some e), Option.some.inj (strZ_eq e)⟩
  obtain ⟨i, e, hi, ei⟩ := hs
  unfold f_J4_append_15ec4_E
  rw [e]
  have es := hB.2.2 j i hj hi ei
  rw [es] at hq h
  exact r_app S hi hq hc h
end RG
theorem testL_53 {q g a b n : Nat} (hq : q < 8) (hg : g < 10) (ha : a < 10) (hb : b < 10) (hn : n < 100) : (testL q g a b n).length ≤ 53 := by
  have sl : ∀ j, j < 94 → (sLs j).length = sLn j := fun j hj => (sLs_f j hj).1
  have d1 := dgL_1 hg
  have d2 := dgL_1 ha
  have d3 := dgL_1 hb
  have d4 := dgL_2 hn
  have d5 := dgL_1 (x := n % 4) (by omega)
  have d6 := dgL_1 (x := n % 7) (by omega)
  have d7 := dgL_1 (x := n % 5) (by omega)
  have d8 := dgL_2 (x := n % 20) (by omega)
  have d9 := dgL_1 (x := n % 9) (by omega)
  have hs : ∀ j, j < 94 → (sLs j).length = sLn j := sl
  unfold testL
  repeat' split
  all_goals (simp only [List.length_append, List.length_nil, show (sLs 44).length = 0 by decide, show (sLs 45).length = 1 by decide, show (sLs 46).length = 1 by decide, show (sLs 47).length = 11 by decide, show (sLs 48).length = 2 by decide, show (sLs 49).length = 12 by decide, show (sLs 50).length = 1 by decide, show (sLs 51).length = 10 by decide, show (sLs 52).length = 17 by decide, show (sLs 53).length = 13 by decide, show (sLs 54).length = 10 by decide, show (sLs 55).length = 3 by decide, show (sLs 56).length = 11 by decide, show (sLs 57).length = 3 by decide, show (sLs 58).length = 17 by decide, show (sLs 59).length = 16 by decide, show (sLs 60).length = 7 by decide, show (sLs 61).length = 3 by decide, show (sLs 62).length = 5 by decide, show (sLs 63).length = 13 by decide, show (sLs 64).length = 10 by decide, show (sLs 65).length = 7 by decide, show (sLs 66).length = 1 by decide]; omega)
