/-! ## Pure: builders above a base: what lies below it stays -/
def FRb (N : Nat) (M M' : gMem) : Prop := (∀ c, c < N → mT M' c = mT M c ∧ mL M' c = mL M c ∧ mJ M' c = mJ M c ∧ mI M' c = mI M c ∧ mR M' c = mR M c) ∧ mN M ≤ mN M'
def SBb (N a : Nat) (L : List Nat) (M : gMem) : Prop := N ≤ a ∧ ∃ v, SBv a v L M
theorem FRb_rf (N : Nat) (M : gMem) : FRb N M M := ⟨fun _ _ => ⟨rfl, rfl, rfl, rfl, rfl⟩, Nat.le_refl _⟩
theorem FRb_tr {N : Nat} {M M1 M2 : gMem} (h1 : FRb N M M1) (h2 : FRb N M1 M2) : FRb N M M2 := ⟨fun c hc => by
    obtain ⟨x1, x2, x3, x4, x5⟩ := h1.1 c hc
    obtain ⟨y1, y2, y3, y4, y5⟩ := h2.1 c hc
    exact ⟨y1.trans x1, y2.trans x2, y3.trans x3, y4.trans x4, y5.trans x5⟩, Nat.le_trans h1.2 h2.2⟩
theorem FRb_lo {N N' : Nat} {M M' : gMem} (h : FRb N M M') (hN : N' ≤ N) : FRb N' M M' := ⟨fun c hc => h.1 c (by omega), h.2⟩
theorem FRb_n {N : Nat} {M M' : gMem} (h : FRn M M') (hN : N ≤ mN M) : FRb N M M' := ⟨fun c hc => h.1 c (by omega), h.2⟩
theorem FRb_v {N a v : Nat} {M M' : gMem} (h : FRv a v M M') (ha : N ≤ a) (hv : N ≤ v) (hN : N ≤ mN M) : FRb N M M' := ⟨fun c hc => by
    obtain ⟨x1, x2, x3⟩ := h.1 c (by omega)
    obtain ⟨y1, y2⟩ := h.2.1 c (by omega) (by omega) (by omega)
    exact ⟨x1, x2, x3, y1, y2⟩, h.2.2⟩
theorem STR_b {N s w : Nat} {L : List Nat} {M M' : gMem} (S : STR s w L M) (h : FRb N M M') (hw : w < N) : STR s w L M' := by
  obtain ⟨⟨t1, r1, c1⟩, ⟨t2, l1⟩, ⟨o1, o2⟩, hl, b⟩ := S
  obtain ⟨x1, x2, x3, x4, x5⟩ := h.1 s (by omega)
  obtain ⟨y1, y2, y3, y4, y5⟩ := h.1 w hw
  exact ⟨⟨by rw [x1]; exact t1, by rw [x5]; exact r1, by rw [x4]; exact c1⟩, ⟨by rw [y1]; exact t2, by rw [y2]; exact l1⟩, ⟨o1, Nat.lt_of_lt_of_le o2 h.2⟩, hl, fun i hi => by rw [y4]; exact b i hi⟩
theorem SBb_t {N a : Nat} {L : List Nat} {M : gMem} (S : SBb N a L M) : mT M a = 13 ∧ a < mN M := by
  obtain ⟨-, v, ⟨t, -⟩, -, ⟨o1, o2⟩, -⟩ := S
  exact ⟨t, by omega⟩
section BLD
variable {Z : Nat → Nat} {N a : Nat} {L : List Nat} {M : gMem} {β : Type}
theorem b_new (K : Unit → gMem → Option β) : ∃ M', (lw (nW M 13 0) fun M1 => bd (f_J4_init_da8c8 Z M1 (mN M)) K) = K () M' ∧ SBb (mN M) (mN M) [] M' ∧ FRb (mN M) M M' := by
  have h1 : mT (nW M 13 0) (mN M) = 13 := if_pos rfl
  have hne : mN M ≠ mN M + 1 := by omega
  have e : f_J4_init_da8c8 Z (nW M 13 0) (mN M) = some ((), wI (wR (nW (nW M 13 0) 22 16) (mN M) 0 (some (mN M + 1))) (mN M) 1 0) := by
    unfold f_J4_init_da8c8 b_J4_init_da8c8_0 f_J5_init_d00df b_J5_init_d00df_0
    rw [ck_t (by decide), ck_t (by decide), lw_S]
    have h2 : mT (nW (nW M 13 0) 22 ((16 : Int32)).toNatClampNeg) (mN M) = 13 := by
      show (if mN M = mN M + 1 then _ else mT (nW M 13 0) (mN M)) = 13
      rw [if_neg hne]; exact h1
    rw [ck_t h2, lw_S, lw_S, bd_S]
    rfl
  rw [lw_S, e, bd_S]
  refine ⟨_, rfl, ⟨Nat.le_refl _, mN M + 1, ⟨⟨?_, ?_, up2_eq _ _ _ _, ?_⟩, ⟨?_, Nat.zero_le _, ?_⟩, ⟨by omega, by show mN M + 1 < mN M + 1 + 1; omega⟩, fun i hi => absurd hi (Nat.not_lt_zero _), fun i hi => ?_⟩⟩, ⟨fun c hc => ?_, by show mN M ≤ mN M + 1 + 1; omega⟩⟩
  · show (if mN M = mN M + 1 then _ else mT (nW M 13 0) (mN M)) = 13
    rw [if_neg hne]; exact h1
  · exact up2_eq _ _ _ _
  · show up2 (up1 (up1 (mI M) (mN M) (fun _ => 0)) (mN M + 1) (fun _ => 0)) (mN M) 1 0 (mN M) 3 = _
    rw [up2_ne (.inr (by decide)), up1_o hne, up1_e]
    rfl
  · exact if_pos rfl
  · show (if mN M + 1 = mN M + 1 then 16 else _) ≤ 2400
    rw [if_pos rfl]; decide
  · show byt (up2 (up1 (up1 (mI M) (mN M) (fun _ => 0)) (mN M + 1) (fun _ => 0)) (mN M) 1 0 (mN M + 1) i)
    rw [up2_ne (.inl (by omega)), up1_e]
    exact (show i2bV 0 = 0 by decide)
  · have h3 : c ≠ mN M := by omega
    have h4 : c ≠ mN M + 1 := by omega
    refine ⟨?_, ?_, ?_, ?_, ?_⟩
    · show up1 (up1 (mT M) (mN M) 13) (mN M + 1) 22 c = _
      rw [up1_o h4, up1_o h3]
    · show up1 (up1 (mL M) (mN M) 0) (mN M + 1) 16 c = _
      rw [up1_o h4, up1_o h3]
    · show up1 (up1 (mJ M) (mN M) _) (mN M + 1) _ c = _
      rw [up1_o h4, up1_o h3]
    · funext j
      show up2 (up1 (up1 (mI M) (mN M) (fun _ => 0)) (mN M + 1) (fun _ => 0)) (mN M) 1 0 c j = _
      rw [up2_ne (.inl h3), up1_o h4, up1_o h3]
    · funext j
      show up2 (up1 (up1 (mR M) (mN M) (fun _ => none)) (mN M + 1) (fun _ => none)) (mN M) 0 _ c j = _
      rw [up2_ne (.inl h3), up1_o h4, up1_o h3]
theorem b_app {j : Nat} (S : SBb N a L M) (hN : N ≤ mN M) (hj : j < 94) (hl : L.length + (sLs j).length ≤ 1199) (K : Option Nat → gMem → Option β) : ∃ M', bd (f_J4_append_15ec4_S Z M a j) K = K (some a) M' ∧ SBb N a (L ++ sLs j) M' ∧ FRb N M M' ∧ N ≤ mN M' := by
  obtain ⟨ha, v, S⟩ := S
  have hv : N ≤ v := by have := S.2.2.1.1; omega
  obtain ⟨v', M', e, S', F, -, -⟩ := sb_app (Z := Z) S hj hl
  exact ⟨M', by rw [e, bd_S], ⟨ha, v', S'⟩, FRb_v F ha hv hN, Nat.le_trans hN F.2.2⟩
theorem b_int {x : Nat} (S : SBb N a L M) (hN : N ≤ mN M) (hx : x < 1000) (hl : L.length + (dgL x).length ≤ 1199) (K : Option Nat → gMem → Option β) : ∃ M', bd (f_J4_append_bf812 Z M a (nI x)) K = K (some a) M' ∧ SBb N a (L ++ dgL x) M' ∧ FRb N M M' ∧ N ≤ mN M' := by
  obtain ⟨ha, v, S⟩ := S
  have hv : N ≤ v := by have := S.2.2.1.1; omega
  obtain ⟨v', M', e, S', F, -, -⟩ := sb_int (Z := Z) S hx hl
  exact ⟨M', by rw [e, bd_S], ⟨ha, v', S'⟩, FRb_v F ha hv hN, Nat.le_trans hN F.2.2⟩
theorem b_apr {s w : Nat} {Q : List Nat} (S : SBb N a L M) (hN : N ≤ mN M) (H : STR s w Q M) (hw : w < N) (hl : L.length + Q.length ≤ 1199) (K : Option Nat → gMem → Option β) : ∃ M', bd (f_J4_append_15ec4_r Z M a (some s)) K = K (some a) M' ∧ SBb N a (L ++ Q) M' ∧ FRb N M M' ∧ N ≤ mN M' := by
  obtain ⟨ha, v, S⟩ := S
  have hv : N ≤ v := by have := S.2.2.1.1; omega
  have hs : s < w := H.2.2.1.1
  obtain ⟨v', M', e, S', F, -, -⟩ := sb_apr (Z := Z) S H ⟨by omega, by omega⟩ ⟨by omega, by omega⟩ hl
  exact ⟨M', by rw [e, bd_S], ⟨ha, v', S'⟩, FRb_v F ha hv hN, Nat.le_trans hN F.2.2⟩
theorem b_str (S : SBb N a L M) (hN : N ≤ mN M) (K : Option Nat → gMem → Option β) : ∃ M', bd (f_J4_toString_0e30d Z M a) K = K (some (mN M)) M' ∧ STR (mN M) (mN M + 1) L M' ∧ FRb N M M' ∧ mN M' = mN M + 2 := by
  obtain ⟨ha, v, S⟩ := S
  obtain ⟨M', e, S', F, h⟩ := sb_str (Z := Z) S
  exact ⟨M', by rw [e, bd_S], S', FRb_n F hN, h⟩
end BLD
