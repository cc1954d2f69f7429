/-! ### the law's beginning -/
theorem k_law_cl8 : Cond.classLink RL 8 RX11 ∈ wsLL := by decide +kernel
theorem k_law_cl68 : Cond.classLink RL 68 RX14 ∈ wsLL := by decide +kernel
theorem k_law_in11 : Cond.instantiable RX11 4 ∈ wsLL := by decide +kernel
theorem k_law_in14 : Cond.instantiable RX14 15 ∈ wsLL := by decide +kernel
theorem k_law_ii11 : Cond.initialized RX11 ∈ wsLL := by decide +kernel
theorem k_law_ii14 : Cond.initialized RX14 ∈ wsLL := by decide +kernel
theorem k_law_ml67 : Cond.methodLink RL 67 yX11_init ∈ wsLL := by decide +kernel
theorem k_law_ml70 : Cond.methodLink RL 70 yX14_init ∈ wsLL := by decide +kernel
theorem k_law_im11 : Cond.instanceMethod yX11_init ∈ wsLL := by decide +kernel
theorem k_law_im14 : Cond.instanceMethod yX14_init ∈ wsLL := by decide +kernel
theorem k_law_arrJ : Cond.arrayClass .long ∈ wsLL := by decide +kernel
theorem i_law_X11 : ∀ w ∈ u_ws RX11 TX11 4, w ∈ wsLL := by decide +kernel
theorem i_law_X14 : ∀ w ∈ u_ws RX14 TX14 15, w ∈ wsLL := by decide +kernel
section GLAW8
variable {p : Program} {l : Launch} {e : Env} {s : State} {m : MethodId} {below : List Frame} {meth : Method} {c : Code} {D : va_G} {cy : Nat → ClassId} {B : Nat} {H0 : Heap} {Z : Nat → Nat} {Q : State → Prop} {b L : Nat} {xs : Nat → Int32} {d0 : Drawn}
set_option maxRecDepth 20000 in
theorem law_begin (hlx : l.stackTraces = false) (hH : H0.size = B) (hZ : ∀ a b : Nat, a < 45 → b < 45 → Z a = Z b → a = b) (X0 : gXL p s m b meth c D cy B Z H0) (hX : va_X b L xs s H0) (hb : b < B) (hL : L ≤ 3072)
    (hend : ∀ mm x d0 k n j M, s.drawn.sameBut d0 lw_cs → k ≤ 601024 → n ≤ 7293034 → gGL p l e (s.setDrawn d0) m b below meth c D cy B H0 k n Q 1296 (lLv b x mm j) [] M) {M0 : gMem} (hM : mN M0 = B) (hd0 : s.drawn.sameBut d0 lw_cs) : gGL p l e (s.setDrawn d0) m b below meth c D cy B H0 0 0 Q 0 [(0, vR (some b))] [] M0 := by
  obtain ⟨X1, X2, f1, n1, f2, n2, S⟩ := STv_new (Z := Z) hM hZ (fun _ => 0)
  have X := gX_dr X0 d0
  refine g_new (ci := 9) X cdX11 i_law_X11 k_law_cl8 k_law_in11 k_law_ii11 (by intro i hi; rcases (show i = 0 ∨ i = 1 ∨ i = 2 ∨ i = 3 by omega) with rfl | rfl | rfl | rfl <;> rfl) ⟨by show _ ≤ 601024; omega, by show _ ≤ 7293034; omega⟩ dL_law_0 ?_
  rw [hM]
  refine g_dup X dL_law_3 rfl ?_
  refine g_callI (b := B) (As := []) (st := [vR (some B)]) (M1 := X1) (gX_w3 X) (m_X11_init l f1) (cwI 0 X.2.2.1 (gMono gL_law_X11_init) rfl rfl rfl (X.2.2.1 _ k_law_ii11) (X.2.2.1 _ k_law_ml67) (X.2.2.1 _ k_law_im11) rfl (by decide +kernel) ⟨Nat.le_of_ble_eq_true rfl, Nat.le_of_ble_eq_true rfl⟩) rfl rfl rfl (Nat.le_of_ble_eq_true rfl) dL_law_4 ⟨by show _ ≤ 601024; omega, by show _ ≤ 7293034; omega⟩ ?_
  refine g_astore_n (lv' := [(1, vR (some B)), (0, vR (some b))]) X dL_law_7 rfl (by decide) rfl ?_
  refine g_new (ci := 12) X cdX14 i_law_X14 k_law_cl68 k_law_in14 k_law_ii14 (by intro i hi; rcases (show i = 0 ∨ i = 1 ∨ i = 2 ∨ i = 3 ∨ i = 4 ∨ i = 5 ∨ i = 6 ∨ i = 7 ∨ i = 8 ∨ i = 9 ∨ i = 10 ∨ i = 11 ∨ i = 12 ∨ i = 13 ∨ i = 14 by omega) with rfl | rfl | rfl | rfl | rfl | rfl | rfl | rfl | rfl | rfl | rfl | rfl | rfl | rfl | rfl <;> rfl) ⟨by show _ ≤ 601024; omega, by show _ ≤ 7293034; omega⟩ dL_law_8 ?_
  rw [n1]
  refine g_dup X dL_law_11 rfl ?_
  refine g_callI (b := B + 178) (As := []) (st := [vR (some (B + 178))]) (M1 := X2) (gX_w3 X) (m_X14_init l f2) (cwI 0 X.2.2.1 (gMono gL_law_X14_init) rfl rfl rfl (X.2.2.1 _ k_law_ii14) (X.2.2.1 _ k_law_ml70) (X.2.2.1 _ k_law_im14) rfl (by decide +kernel) ⟨Nat.le_of_ble_eq_true rfl, Nat.le_of_ble_eq_true rfl⟩) rfl rfl rfl (Nat.le_of_ble_eq_true rfl) dL_law_12 ⟨by show _ ≤ 601024; omega, by show _ ≤ 7293034; omega⟩ ?_
  refine g_astore_n (lv' := [(2, vR (some (B + 178))), (1, vR (some B)), (0, vR (some b))]) X dL_law_15 rfl (by decide) rfl ?_
  refine g_iconst (v := (1 : Int32)) X dL_law_16 (by decide) ?_
  refine g_newa (at' := .long) (t0 := 0) (t := 21) (z := (1 : Int32)) X k_law_arrJ (.inr (.inl ⟨rfl, rfl⟩)) (by decide) (by decide) ⟨by show _ ≤ 601024; omega, by show _ ≤ 7293034; decide⟩ dL_law_17 ?_
  rw [n2]
  refine g_astore_n (lv' := [(3, vR (some (B + 178 + 59))), (2, vR (some (B + 178))), (1, vR (some B)), (0, vR (some b))]) X dL_law_19 rfl (by decide) rfl ?_
  refine g_iconst (v := (0 : Int32)) X dL_law_20 (by decide) ?_
  refine g_istore (lv' := [(4, vI (nI (6 * 0))), (3, vR (some (B + 178 + 59))), (2, vR (some (B + 178))), (1, vR (some B)), (0, vR (some b))]) X dL_law_21 (by decide) rfl ?_
  refine g_sub (lvsub_of _ (lLv b B (B + 178) (6 * 0)) [4, 3, 2, 1, 0] rfl) ?_
  refine g_wide (k' := 300 + 160 * 0) (n' := 90000 + 1600 * 0) (by omega) (by decide) ?_
  exact law_loop hlx hH hZ X0 hX hb hL (hend _ _) 513 0 d0 _ (by omega) hd0 ⟨_, _, _, _, _, _, S, by omega⟩
end GLAW8
