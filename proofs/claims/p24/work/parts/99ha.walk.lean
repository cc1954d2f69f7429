/-! The law's walk, 4 (written by law99h.py) -/
section
variable {p : Program} {l : Launch} {e : Env} {s : State} {m : MethodId} {args : Array Value} {below : List Frame} {meth : Method} {c : Code} {D : va_G} {cy : Nat → ClassId} {B : Nat} {H0 : Heap} {Z : Nat → Nat}
set_option maxHeartbeats 4000000 in
set_option maxRecDepth 100000 in
theorem t_L_law_561 (X2 : gX p s m args meth c D cy B (gSt2 Z B H0) RL cL_law wsL_law 34) (hr : meth.sig.returnType = (some .boolean)) (hlx : l.stackTraces = false) (hH : ∀ q : Nat, q < B → s.heap[q]? = H0[q]?) (hne : ∀ x ∈ c.exceptionTable.toList, False) (hH0 : H0.size = B) {Q : State → Prop} : ∀ (M : gMem) (kc : Nat) (kn : Nat) (x2 : Option Nat) (x3 : Option Nat) (x4 : Int32) (x5 : Int32) (x6 : Int32) (x7 : Int32) (x10 : Option Nat) (x11 : Option Nat) (x12 : Option Nat) (x13 : Int32) (x14 : Int32) (x18 : Option Nat) (x19 : Int32) (x20 : Int32) (x21 : Int32) (s0 : Int32) (z : (gMem × Nat × Nat × Int32) ⊕ ((Nat ⊕ Int32) × gMem)), b_L_law_561 Z M kc kn x2 x3 x4 x5 x6 x7 x10 x11 x12 x13 x14 x18 x19 x20 x21 s0 = some z → (Sum.elim (fun (q : gMem × Nat × Nat × Int32) => gGo p l e rL_law s m args below meth c D cy B H0 34 q.2.1 q.2.2.1 Q 59 [(0, vR (some (Z 400))), (2, vR x2), (3, vR x3), (4, vI x4), (5, vI x5), (6, vI x6), (7, vI q.2.2.2)] [] q.1) (fun (r : (Nat ⊕ Int32) × gMem) => Q = gMX below D cy B H0 args s 600086 7301442 (gzI r.1) r.2)) z → gGo p l e rL_law s m args below meth c D cy B H0 34 kc kn Q 561 [(0, vR (some (Z 400))), (2, vR x2), (3, vR x3), (4, vI x4), (5, vI x5), (6, vI x6), (7, vI x7), (10, vR x10), (11, vR x11), (12, vR x12), (13, vI x13), (14, vI x14), (18, vR x18), (19, vI x19), (20, vI x20), (21, vI x21)] [vI s0] M := by
  intro M kc kn x2 x3 x4 x5 x6 x7 x10 x11 x12 x13 x14 x18 x19 x20 x21 s0 z hf hK
  unfold b_L_law_561 at hf
  have X := gX_w X2
  refine g_aload X dL_law_561 rfl ?_
  refine g_iload X dL_law_563 rfl ?_
  obtain ⟨a439, ha439, hf⟩ := dr_e hf
  obtain ⟨hT440, hf⟩ := ck_e hf
  obtain ⟨hg441, hf⟩ := ck_e hf
  refine g_aaldA X dL_law_565 ha439 hT440 hg441 ?_
  refine g_iconst (v := (0 : Int32)) X dL_law_566 (by decide) ?_
  obtain ⟨a442, ha442, hf⟩ := dr_e hf
  obtain ⟨hT443, hf⟩ := ck_e hf
  obtain ⟨hg444, hf⟩ := ck_e hf
  refine g_iald X dL_law_567 ha442 hT443 hg444 ?_
  refine g_if_ne (tgt := 575) X dL_law_568 (by decide) (fun hc => ?_) (fun hc => ?_)
  · have hf := ife_f hc hf
    refine g_iconst (v := (0 : Int32)) X dL_law_575 (by decide) ?_
    refine g_sub (lvsub_of _ _ [0, 1, 2, 3, 4, 5, 6, 7, 8, 9, 10, 11, 12, 13, 14, 15] rfl) ?_
    exact t_L_law_576 X2 hr hlx hH hne hH0 _ _ _ _ _ _ _ _ _ _ _ _ _ _ _ _ _ _ _ _ _ hf hK
  · have hf := ife_t hc hf
    refine g_iconst (v := (1 : Int32)) X dL_law_571 (by decide) ?_
    refine g_goto (tgt := 576) X dL_law_572 (by decide) ?_
    refine g_sub (lvsub_of _ _ [0, 1, 2, 3, 4, 5, 6, 7, 8, 9, 10, 11, 12, 13, 14, 15] rfl) ?_
    exact t_L_law_576 X2 hr hlx hH hne hH0 _ _ _ _ _ _ _ _ _ _ _ _ _ _ _ _ _ _ _ _ _ hf hK
set_option maxHeartbeats 4000000 in
set_option maxRecDepth 100000 in
theorem t_L_law_425 (X2 : gX p s m args meth c D cy B (gSt2 Z B H0) RL cL_law wsL_law 34) (hr : meth.sig.returnType = (some .boolean)) (hlx : l.stackTraces = false) (hH : ∀ q : Nat, q < B → s.heap[q]? = H0[q]?) (hne : ∀ x ∈ c.exceptionTable.toList, False) (hH0 : H0.size = B) {Q : State → Prop} : ∀ (M : gMem) (kc : Nat) (kn : Nat) (z : (Nat ⊕ Int32) × gMem), b_L_law_425 Z M kc kn = some z → (fun (r : (Nat ⊕ Int32) × gMem) => Q = gMX below D cy B H0 args s 600086 7301442 (gzI r.1) r.2) z → gGo p l e rL_law s m args below meth c D cy B H0 34 kc kn Q 425 [] [] M := by
  intro M kc kn z hf hK
  unfold b_L_law_425 at hf
  have X := gX_w X2
  refine g_iconst (v := (0 : Int32)) X dL_law_425 (by decide) ?_
  obtain ⟨hg445, hf⟩ := ck_e hf
  cases hf
  refine g_eqQ hK ?_
  refine g_wide (k' := 600086) (n' := 7301442) hg445.1 hg445.2 ?_
  refine g_xret ?_
  exact g_zret X hr (gnb (Or.inl rfl)) dL_law_426
set_option maxHeartbeats 4000000 in
set_option maxRecDepth 100000 in
theorem tb_L_law_386 (X2 : gX p s m args meth c D cy B (gSt2 Z B H0) RL cL_law wsL_law 34) (hr : meth.sig.returnType = (some .boolean)) (hlx : l.stackTraces = false) (hH : ∀ q : Nat, q < B → s.heap[q]? = H0[q]?) (hne : ∀ x ∈ c.exceptionTable.toList, False) (hH0 : H0.size = B) {Q : State → Prop} : ∀ (M : gMem) (kc : Nat) (kn : Nat) (x2 : Option Nat) (x3 : Option Nat) (x4 : Int32) (x5 : Int32) (x6 : Int32) (x7 : Int32) (x8 : Int32) (x9 : Int32) (x10 : Option Nat) (x11 : Option Nat) (x12 : Option Nat) (x13 : Int32) (x14 : Int32) (x15 : Option Nat) (x16 : Int32) (z : (gMem × Nat × Nat × Int32) ⊕ ((gMem × Nat × Nat × Int32) ⊕ ((Nat ⊕ Int32) × gMem))), bb_L_law_386 Z M kc kn x2 x3 x4 x5 x6 x7 x8 x9 x10 x11 x12 x13 x14 x15 x16 = some z → (Sum.elim (fun (q : gMem × Nat × Nat × Int32) => gGo p l e rL_law s m args below meth c D cy B H0 34 q.2.1 q.2.2.1 Q 386 [(0, vR (some (Z 400))), (2, vR x2), (3, vR x3), (4, vI x4), (5, vI x5), (6, vI x6), (7, vI x7), (8, vI x8), (9, vI x9), (10, vR x10), (11, vR x11), (12, vR x12), (13, vI x13), (14, vI x14), (15, vR x15), (16, vI q.2.2.2)] [] q.1) (Sum.elim (fun (q : gMem × Nat × Nat × Int32) => gGo p l e rL_law s m args below meth c D cy B H0 34 q.2.1 q.2.2.1 Q 59 [(0, vR (some (Z 400))), (2, vR x2), (3, vR x3), (4, vI x4), (5, vI x5), (6, vI x6), (7, vI q.2.2.2)] [] q.1) (fun (r : (Nat ⊕ Int32) × gMem) => Q = gMX below D cy B H0 args s 600086 7301442 (gzI r.1) r.2))) z → gGo p l e rL_law s m args below meth c D cy B H0 34 kc kn Q 386 [(0, vR (some (Z 400))), (2, vR x2), (3, vR x3), (4, vI x4), (5, vI x5), (6, vI x6), (7, vI x7), (8, vI x8), (9, vI x9), (10, vR x10), (11, vR x11), (12, vR x12), (13, vI x13), (14, vI x14), (15, vR x15), (16, vI x16)] [] M := by
  intro M kc kn x2 x3 x4 x5 x6 x7 x8 x9 x10 x11 x12 x13 x14 x15 x16 z hf hK
  unfold bb_L_law_386 at hf
  have X := gX_w X2
  refine g_iload X dL_law_386 rfl ?_
  refine g_iload X dL_law_388 rfl ?_
  refine g_icmp_ge (tgt := 443) X dL_law_390 (by decide) (fun hc => ?_) (fun hc => ?_)
  · have hf := ife_t hc hf
    refine g_aload_n X dL_law_443 rfl rfl ?_
    obtain ⟨a447, ha447, hf⟩ := dr_e hf
    obtain ⟨hT448, hf⟩ := ck_e hf
    obtain ⟨hg449, hf⟩ := ck_e hf
    obtain ⟨r446, M446, hq446, hf⟩ := bd_e hf
    refine g_callV (ci := 9) (b := a447) (As := []) (st := []) (v := some (vJ r446)) (M1 := M446) X (m_X11_digest l hq446) (cwV 0 X.2.2.1 gL_law_X11_digest rfl rfl rfl (by decide +kernel) ⟨Nat.le_of_ble_eq_true rfl, Nat.le_of_ble_eq_true rfl⟩) rfl rfl ha447 hT448 (by decide) rfl (Nat.le_of_ble_eq_true rfl) dL_law_444 ⟨hg449.1, hg449.2⟩ ?_
    refine g_lstore (lv' := [(16, vJ r446), (0, vR (some (Z 400))), (2, vR x2), (3, vR x3), (4, vI x4), (5, vI x5), (6, vI x6), (7, vI x7), (8, vI x8), (9, vI x9), (10, vR x10), (11, vR x11), (12, vR x12), (13, vI x13), (14, vI x14), (15, vR x15)]) X dL_law_447 (by decide) rfl ?_
    refine g_iconst (v := (3 : Int32)) X dL_law_449 (by decide) ?_
    obtain ⟨hg450, hf⟩ := ck_e hf
    refine g_newa (at' := .int) (t0 := 0) X k_L_law_acint (by exact Or.inl ⟨rfl, rfl⟩) (by decide) (by decide) ⟨hg450.1, hg450.2⟩ dL_law_450 ?_
    obtain ⟨M451, hM451, hf⟩ := lw_e hf
    rw [← hM451]
    refine g_dup X dL_law_452 rfl ?_
    refine g_iconst (v := (0 : Int32)) X dL_law_453 (by decide) ?_
    refine g_aload_n X dL_law_454 rfl rfl ?_
    refine g_iconst (v := (1 : Int32)) X dL_law_455 (by decide) ?_
    refine g_iconst (v := (0 : Int32)) X dL_law_456 (by decide) ?_
    obtain ⟨hT453, hf⟩ := ck_e hf
    obtain ⟨hg454, hf⟩ := ck_e hf
    rcases bx_e hf with ⟨e452, M452, hq452, hf⟩ | ⟨r452, M452, hq452, hf⟩
    · obtain ⟨w455, hw455, hz455⟩ := oI_e hf
      subst hz455
      have hf := hw455
      obtain ⟨w456, hw456, hz456⟩ := oI_e hf
      subst hz456
      have hf := hw456
      cases hf
      refine g_eqQ hK ?_
      exact g_callTV (ci := 9) (b := a447) (As := [vI (1 : Int32), vI (0 : Int32)]) (st := [vI (0 : Int32), vR (some (mN M446)), vR (some (mN M446))]) (M1 := M452) X2 hne (m_X11_foresee l hlx hH0 hq452) (cwV 2 X.2.2.1 gL_law_X11_foresee rfl rfl rfl (by decide +kernel) ⟨Nat.le_of_ble_eq_true rfl, Nat.le_of_ble_eq_true rfl⟩) rfl rfl ha447 hT453 (by decide) rfl (Nat.le_of_ble_eq_true rfl) dL_law_457 ⟨hg454.1, hg454.2⟩ hg454.1 hg454.2
    refine g_callXV (ci := 9) (b := a447) (As := [vI (1 : Int32), vI (0 : Int32)]) (st := [vI (0 : Int32), vR (some (mN M446)), vR (some (mN M446))]) (v := some (vI r452)) (M1 := M452) X2 (m_X11_foresee l hlx hH0 hq452) (cwV 2 X.2.2.1 gL_law_X11_foresee rfl rfl rfl (by decide +kernel) ⟨Nat.le_of_ble_eq_true rfl, Nat.le_of_ble_eq_true rfl⟩) rfl rfl ha447 hT453 (by decide) rfl (Nat.le_of_ble_eq_true rfl) dL_law_457 ⟨hg454.1, hg454.2⟩ ?_
    obtain ⟨hT457, hf⟩ := ck_e hf
    obtain ⟨hg458, hf⟩ := ck_e hf
    refine g_iast X dL_law_460 rfl hT457 hg458 ?_
    obtain ⟨M459, hM459, hf⟩ := lw_e hf
    rw [← hM459]
    have hT460 : mT M459 (mN M446) = 20 := by rw [hM459]; exact hT457
    refine g_dup X dL_law_461 rfl ?_
    refine g_iconst (v := (1 : Int32)) X dL_law_462 (by decide) ?_
    refine g_aload_n X dL_law_463 rfl rfl ?_
    refine g_iconst (v := (1 : Int32)) X dL_law_464 (by decide) ?_
    refine g_iconst (v := (1 : Int32)) X dL_law_465 (by decide) ?_
    obtain ⟨hT462, hf⟩ := ck_e hf
    obtain ⟨hg463, hf⟩ := ck_e hf
    rcases bx_e hf with ⟨e461, M461, hq461, hf⟩ | ⟨r461, M461, hq461, hf⟩
    · obtain ⟨w464, hw464, hz464⟩ := oI_e hf
      subst hz464
      have hf := hw464
      obtain ⟨w465, hw465, hz465⟩ := oI_e hf
      subst hz465
      have hf := hw465
      cases hf
      refine g_eqQ hK ?_
      exact g_callTV (ci := 9) (b := a447) (As := [vI (1 : Int32), vI (1 : Int32)]) (st := [vI (1 : Int32), vR (some (mN M446)), vR (some (mN M446))]) (M1 := M461) X2 hne (m_X11_foresee l hlx hH0 hq461) (cwV 2 X.2.2.1 gL_law_X11_foresee rfl rfl rfl (by decide +kernel) ⟨Nat.le_of_ble_eq_true rfl, Nat.le_of_ble_eq_true rfl⟩) rfl rfl ha447 hT462 (by decide) rfl (Nat.le_of_ble_eq_true rfl) dL_law_466 ⟨hg463.1, hg463.2⟩ hg463.1 hg463.2
    refine g_callXV (ci := 9) (b := a447) (As := [vI (1 : Int32), vI (1 : Int32)]) (st := [vI (1 : Int32), vR (some (mN M446)), vR (some (mN M446))]) (v := some (vI r461)) (M1 := M461) X2 (m_X11_foresee l hlx hH0 hq461) (cwV 2 X.2.2.1 gL_law_X11_foresee rfl rfl rfl (by decide +kernel) ⟨Nat.le_of_ble_eq_true rfl, Nat.le_of_ble_eq_true rfl⟩) rfl rfl ha447 hT462 (by decide) rfl (Nat.le_of_ble_eq_true rfl) dL_law_466 ⟨hg463.1, hg463.2⟩ ?_
    obtain ⟨hT466, hf⟩ := ck_e hf
    obtain ⟨hg467, hf⟩ := ck_e hf
    refine g_iast X dL_law_469 rfl hT466 hg467 ?_
    obtain ⟨M468, hM468, hf⟩ := lw_e hf
    rw [← hM468]
    have hT469 : mT M468 (mN M446) = 20 := by rw [hM468]; exact hT466
    refine g_dup X dL_law_470 rfl ?_
    refine g_iconst (v := (2 : Int32)) X dL_law_471 (by decide) ?_
    refine g_aload_n X dL_law_472 rfl rfl ?_
    refine g_iconst (v := (1 : Int32)) X dL_law_473 (by decide) ?_
    refine g_iconst (v := (2 : Int32)) X dL_law_474 (by decide) ?_
    obtain ⟨hT471, hf⟩ := ck_e hf
    obtain ⟨hg472, hf⟩ := ck_e hf
    rcases bx_e hf with ⟨e470, M470, hq470, hf⟩ | ⟨r470, M470, hq470, hf⟩
    · obtain ⟨w473, hw473, hz473⟩ := oI_e hf
      subst hz473
      have hf := hw473
      obtain ⟨w474, hw474, hz474⟩ := oI_e hf
      subst hz474
      have hf := hw474
      cases hf
      refine g_eqQ hK ?_
      exact g_callTV (ci := 9) (b := a447) (As := [vI (1 : Int32), vI (2 : Int32)]) (st := [vI (2 : Int32), vR (some (mN M446)), vR (some (mN M446))]) (M1 := M470) X2 hne (m_X11_foresee l hlx hH0 hq470) (cwV 2 X.2.2.1 gL_law_X11_foresee rfl rfl rfl (by decide +kernel) ⟨Nat.le_of_ble_eq_true rfl, Nat.le_of_ble_eq_true rfl⟩) rfl rfl ha447 hT471 (by decide) rfl (Nat.le_of_ble_eq_true rfl) dL_law_475 ⟨hg472.1, hg472.2⟩ hg472.1 hg472.2
    refine g_callXV (ci := 9) (b := a447) (As := [vI (1 : Int32), vI (2 : Int32)]) (st := [vI (2 : Int32), vR (some (mN M446)), vR (some (mN M446))]) (v := some (vI r470)) (M1 := M470) X2 (m_X11_foresee l hlx hH0 hq470) (cwV 2 X.2.2.1 gL_law_X11_foresee rfl rfl rfl (by decide +kernel) ⟨Nat.le_of_ble_eq_true rfl, Nat.le_of_ble_eq_true rfl⟩) rfl rfl ha447 hT471 (by decide) rfl (Nat.le_of_ble_eq_true rfl) dL_law_475 ⟨hg472.1, hg472.2⟩ ?_
    obtain ⟨hT475, hf⟩ := ck_e hf
    obtain ⟨hg476, hf⟩ := ck_e hf
    refine g_iast X dL_law_478 rfl hT475 hg476 ?_
    obtain ⟨M477, hM477, hf⟩ := lw_e hf
    rw [← hM477]
    have hT478 : mT M477 (mN M446) = 20 := by rw [hM477]; exact hT475
    refine g_astore (lv' := [(18, vR (some (mN M446))), (16, vJ r446), (0, vR (some (Z 400))), (2, vR x2), (3, vR x3), (4, vI x4), (5, vI x5), (6, vI x6), (7, vI x7), (8, vI x8), (9, vI x9), (10, vR x10), (11, vR x11), (12, vR x12), (13, vI x13), (14, vI x14), (15, vR x15)]) X dL_law_479 (by decide) rfl ?_
    refine g_iload X dL_law_481 rfl ?_
    refine g_iconst (v := (4 : Int32)) X dL_law_483 (by decide) ?_
    refine g_ishr X dL_law_484 ?_
    refine g_iload X dL_law_485 rfl ?_
    obtain ⟨hg480, hf⟩ := ck_e hf
    obtain ⟨r479, M479, hq479, hf⟩ := bd_e hf
    refine g_callS (As := [vI (x8 >>> ((4 : Int32) &&& 31)), vI x5]) (st := []) (v := some (vI r479)) (M1 := M479) X (m_L_below l hq479) (va_cwS 2 X.2.2.1 gL_law_L_below rfl rfl rfl (by decide +kernel) ⟨Nat.le_of_ble_eq_true rfl, Nat.le_of_ble_eq_true rfl⟩) rfl rfl (Nat.le_of_ble_eq_true rfl) dL_law_487 ⟨hg480.1, hg480.2⟩ ?_
    refine g_istore (lv' := [(19, vI r479), (18, vR (some (mN M446))), (16, vJ r446), (0, vR (some (Z 400))), (2, vR x2), (3, vR x3), (4, vI x4), (5, vI x5), (6, vI x6), (7, vI x7), (8, vI x8), (9, vI x9), (10, vR x10), (11, vR x11), (12, vR x12), (13, vI x13), (14, vI x14), (15, vR x15)]) X dL_law_490 (by decide) rfl ?_
    refine g_aload_n X dL_law_492 rfl rfl ?_
    refine g_iload X dL_law_493 rfl ?_
    obtain ⟨hT482, hf⟩ := ck_e hf
    obtain ⟨hg483, hf⟩ := ck_e hf
    rcases bx_e hf with ⟨e481, M481, hq481, hf⟩ | ⟨r481, M481, hq481, hf⟩
    · obtain ⟨w484, hw484, hz484⟩ := oI_e hf
      subst hz484
      have hf := hw484
      obtain ⟨w485, hw485, hz485⟩ := oI_e hf
      subst hz485
      have hf := hw485
      cases hf
      refine g_eqQ hK ?_
      exact g_callTV (ci := 9) (b := a447) (As := [vI r479]) (st := []) (M1 := M481) X2 hne (m_X11_empty l hlx hH0 hq481) (cwV 1 X.2.2.1 gL_law_X11_empty rfl rfl rfl (by decide +kernel) ⟨Nat.le_of_ble_eq_true rfl, Nat.le_of_ble_eq_true rfl⟩) rfl rfl ha447 hT482 (by decide) rfl (Nat.le_of_ble_eq_true rfl) dL_law_495 ⟨hg483.1, hg483.2⟩ hg483.1 hg483.2
    refine g_callXV (ci := 9) (b := a447) (As := [vI r479]) (st := []) (v := some (vI r481)) (M1 := M481) X2 (m_X11_empty l hlx hH0 hq481) (cwV 1 X.2.2.1 gL_law_X11_empty rfl rfl rfl (by decide +kernel) ⟨Nat.le_of_ble_eq_true rfl, Nat.le_of_ble_eq_true rfl⟩) rfl rfl ha447 hT482 (by decide) rfl (Nat.le_of_ble_eq_true rfl) dL_law_495 ⟨hg483.1, hg483.2⟩ ?_
    refine g_istore (lv' := [(20, vI r481), (19, vI r479), (18, vR (some (mN M446))), (16, vJ r446), (0, vR (some (Z 400))), (2, vR x2), (3, vR x3), (4, vI x4), (5, vI x5), (6, vI x6), (7, vI x7), (8, vI x8), (9, vI x9), (10, vR x10), (11, vR x11), (12, vR x12), (13, vI x13), (14, vI x14), (15, vR x15)]) X dL_law_498 (by decide) rfl ?_
    refine g_aload_n X dL_law_500 rfl rfl ?_
    refine g_iload X dL_law_501 rfl ?_
    refine g_iconst (v := (1 : Int32)) X dL_law_503 (by decide) ?_
    obtain ⟨hT487, hf⟩ := ck_e hf
    obtain ⟨hg488, hf⟩ := ck_e hf
    rcases bx_e hf with ⟨e486, M486, hq486, hf⟩ | ⟨r486, M486, hq486, hf⟩
    · obtain ⟨w489, hw489, hz489⟩ := oI_e hf
      subst hz489
      have hf := hw489
      obtain ⟨w490, hw490, hz490⟩ := oI_e hf
      subst hz490
      have hf := hw490
      cases hf
      refine g_eqQ hK ?_
      exact g_callTV (ci := 9) (b := a447) (As := [vI x9, vI (1 : Int32)]) (st := []) (M1 := M486) X2 hne (m_X11_pays l hlx hH0 hq486) (cwV 2 X.2.2.1 gL_law_X11_pays rfl rfl rfl (by decide +kernel) ⟨Nat.le_of_ble_eq_true rfl, Nat.le_of_ble_eq_true rfl⟩) rfl rfl ha447 hT487 (by decide) rfl (Nat.le_of_ble_eq_true rfl) dL_law_504 ⟨hg488.1, hg488.2⟩ hg488.1 hg488.2
    refine g_callXV (ci := 9) (b := a447) (As := [vI x9, vI (1 : Int32)]) (st := []) (v := some (vI r486)) (M1 := M486) X2 (m_X11_pays l hlx hH0 hq486) (cwV 2 X.2.2.1 gL_law_X11_pays rfl rfl rfl (by decide +kernel) ⟨Nat.le_of_ble_eq_true rfl, Nat.le_of_ble_eq_true rfl⟩) rfl rfl ha447 hT487 (by decide) rfl (Nat.le_of_ble_eq_true rfl) dL_law_504 ⟨hg488.1, hg488.2⟩ ?_
    refine g_istore (lv' := [(21, vI r486), (20, vI r481), (19, vI r479), (18, vR (some (mN M446))), (16, vJ r446), (0, vR (some (Z 400))), (2, vR x2), (3, vR x3), (4, vI x4), (5, vI x5), (6, vI x6), (7, vI x7), (8, vI x8), (9, vI x9), (10, vR x10), (11, vR x11), (12, vR x12), (13, vI x13), (14, vI x14), (15, vR x15)]) X dL_law_507 (by decide) rfl ?_
    refine g_aload_n X dL_law_509 rfl rfl ?_
    refine g_iload X dL_law_510 rfl ?_
    refine g_iconst (v := (1 : Int32)) X dL_law_512 (by decide) ?_
    refine g_iload X dL_law_513 rfl ?_
    refine g_bipush (v := (6 : Int32)) X dL_law_515 (by decide) ?_
    refine g_ishr X dL_law_517 ?_
    refine g_bipush (v := (10 : Int32)) X dL_law_518 (by decide) ?_
    obtain ⟨hg492, hf⟩ := ck_e hf
    obtain ⟨r491, M491, hq491, hf⟩ := bd_e hf
    refine g_callS (As := [vI (x8 >>> ((6 : Int32) &&& 31)), vI (10 : Int32)]) (st := [vI (1 : Int32), vI x9, vR x3]) (v := some (vI r491)) (M1 := M491) X (m_L_below l hq491) (va_cwS 2 X.2.2.1 gL_law_L_below rfl rfl rfl (by decide +kernel) ⟨Nat.le_of_ble_eq_true rfl, Nat.le_of_ble_eq_true rfl⟩) rfl rfl (Nat.le_of_ble_eq_true rfl) dL_law_520 ⟨hg492.1, hg492.2⟩ ?_
    refine g_iadd X dL_law_523 ?_
    obtain ⟨hT494, hf⟩ := ck_e hf
    obtain ⟨hg495, hf⟩ := ck_e hf
    rcases bx_e hf with ⟨e493, M493, hq493, hf⟩ | ⟨r493, M493, hq493, hf⟩
    · obtain ⟨w496, hw496, hz496⟩ := oI_e hf
      subst hz496
      have hf := hw496
      obtain ⟨w497, hw497, hz497⟩ := oI_e hf
      subst hz497
      have hf := hw497
      cases hf
      refine g_eqQ hK ?_
      exact g_callTV (ci := 9) (b := a447) (As := [vI x9, vI ((1 : Int32) + r491)]) (st := []) (M1 := M493) X2 hne (m_X11_advise l hlx hH0 hq493) (cwV 2 X.2.2.1 gL_law_X11_advise rfl rfl rfl (by decide +kernel) ⟨Nat.le_of_ble_eq_true rfl, Nat.le_of_ble_eq_true rfl⟩) rfl rfl ha447 hT494 (by decide) rfl (Nat.le_of_ble_eq_true rfl) dL_law_524 ⟨hg495.1, hg495.2⟩ hg495.1 hg495.2
    refine g_callXV (ci := 9) (b := a447) (As := [vI x9, vI ((1 : Int32) + r491)]) (st := []) (v := some (vI r493)) (M1 := M493) X2 (m_X11_advise l hlx hH0 hq493) (cwV 2 X.2.2.1 gL_law_X11_advise rfl rfl rfl (by decide +kernel) ⟨Nat.le_of_ble_eq_true rfl, Nat.le_of_ble_eq_true rfl⟩) rfl rfl ha447 hT494 (by decide) rfl (Nat.le_of_ble_eq_true rfl) dL_law_524 ⟨hg495.1, hg495.2⟩ ?_
    refine g_istore (lv' := [(22, vI r493), (21, vI r486), (20, vI r481), (19, vI r479), (18, vR (some (mN M446))), (16, vJ r446), (0, vR (some (Z 400))), (2, vR x2), (3, vR x3), (4, vI x4), (5, vI x5), (6, vI x6), (7, vI x7), (8, vI x8), (9, vI x9), (10, vR x10), (11, vR x11), (12, vR x12), (13, vI x13), (14, vI x14), (15, vR x15)]) X dL_law_527 (by decide) rfl ?_
    refine g_aload_n X dL_law_529 rfl rfl ?_
    obtain ⟨hT499, hf⟩ := ck_e hf
    obtain ⟨hg500, hf⟩ := ck_e hf
    obtain ⟨r498, M498, hq498, hf⟩ := bd_e hf
    refine g_callV (ci := 9) (b := a447) (As := []) (st := []) (v := some (vJ r498)) (M1 := M498) X (m_X11_digest l hq498) (cwV 0 X.2.2.1 gL_law_X11_digest rfl rfl rfl (by decide +kernel) ⟨Nat.le_of_ble_eq_true rfl, Nat.le_of_ble_eq_true rfl⟩) rfl rfl ha447 hT499 (by decide) rfl (Nat.le_of_ble_eq_true rfl) dL_law_530 ⟨hg500.1, hg500.2⟩ ?_
    refine g_lload X dL_law_533 rfl ?_
    refine g_lcmp X dL_law_535 ?_
    refine g_if_ne (tgt := 590) X dL_law_536 (by decide) (fun hc => ?_) (fun hc => ?_)
    · have hf := ife_f hc hf
      obtain ⟨w501, hw501, hz501⟩ := oI_e hf
      subst hz501
      have hf := hw501
      obtain ⟨w502, hw502, hz502⟩ := oI_e hf
      subst hz502
      have hf := hw502
      refine g_sub (lvsub_of _ _ [] rfl) ?_
      exact t_L_law_590 X2 hr hlx hH hne hH0 _ _ _ _ hf hK
    · have hf := ife_t hc hf
      refine g_iload X dL_law_539 rfl ?_
      refine g_iconst (v := (1 : Int32)) X dL_law_541 (by decide) ?_
      refine g_icmp_lt (tgt := 590) X dL_law_542 (by decide) (fun hc => ?_) (fun hc => ?_)
      · have hf := ife_t hc hf
        obtain ⟨w503, hw503, hz503⟩ := oI_e hf
        subst hz503
        have hf := hw503
        obtain ⟨w504, hw504, hz504⟩ := oI_e hf
        subst hz504
        have hf := hw504
        refine g_sub (lvsub_of _ _ [] rfl) ?_
        exact t_L_law_590 X2 hr hlx hH hne hH0 _ _ _ _ hf hK
      · have hf := ife_f hc hf
        refine g_iload X dL_law_545 rfl ?_
        refine g_iconst (v := (5 : Int32)) X dL_law_547 (by decide) ?_
        refine g_icmp_gt (tgt := 590) X dL_law_548 (by decide) (fun hc => ?_) (fun hc => ?_)
        · have hf := ife_t hc hf
          obtain ⟨w505, hw505, hz505⟩ := oI_e hf
          subst hz505
          have hf := hw505
          obtain ⟨w506, hw506, hz506⟩ := oI_e hf
          subst hz506
          have hf := hw506
          refine g_sub (lvsub_of _ _ [] rfl) ?_
          exact t_L_law_590 X2 hr hlx hH hne hH0 _ _ _ _ hf hK
        · have hf := ife_f hc hf
          refine g_iload X dL_law_551 rfl ?_
          refine g_if_ne (tgt := 560) X dL_law_553 (by decide) (fun hc => ?_) (fun hc => ?_)
          · have hf := ife_f hc hf
            refine g_iconst (v := (0 : Int32)) X dL_law_560 (by decide) ?_
            obtain ⟨w507, hw507, hz507⟩ := oI_e hf
            subst hz507
            have hf := hw507
            refine g_sub (lvsub_of _ _ [6, 7, 8, 9, 10, 11, 12, 15, 16, 17, 18, 19, 4, 3, 2, 1] rfl) ?_
            exact t_L_law_561 X2 hr hlx hH hne hH0 _ _ _ _ _ _ _ _ _ _ _ _ _ _ _ _ _ _ _ _ hf hK
          · have hf := ife_t hc hf
            refine g_iconst (v := (1 : Int32)) X dL_law_556 (by decide) ?_
            refine g_goto (tgt := 561) X dL_law_557 (by decide) ?_
            obtain ⟨w508, hw508, hz508⟩ := oI_e hf
            subst hz508
            have hf := hw508
            refine g_sub (lvsub_of _ _ [6, 7, 8, 9, 10, 11, 12, 15, 16, 17, 18, 19, 4, 3, 2, 1] rfl) ?_
            exact t_L_law_561 X2 hr hlx hH hne hH0 _ _ _ _ _ _ _ _ _ _ _ _ _ _ _ _ _ _ _ _ hf hK
  · have hf := ife_f hc hf
    refine g_aload_n X dL_law_393 rfl rfl ?_
    refine g_iload X dL_law_394 rfl ?_
    obtain ⟨a510, ha510, hf⟩ := dr_e hf
    obtain ⟨hT511, hf⟩ := ck_e hf
    obtain ⟨hg512, hf⟩ := ck_e hf
    rcases bx_e hf with ⟨e509, M509, hq509, hf⟩ | ⟨r509, M509, hq509, hf⟩
    · obtain ⟨w513, hw513, hz513⟩ := oI_e hf
      subst hz513
      have hf := hw513
      obtain ⟨w514, hw514, hz514⟩ := oI_e hf
      subst hz514
      have hf := hw514
      cases hf
      refine g_eqQ hK ?_
      exact g_callTV (ci := 9) (b := a510) (As := [vI x16]) (st := []) (M1 := M509) X2 hne (m_X11_lot l hlx hH0 hq509) (cwV 1 X.2.2.1 gL_law_X11_lot rfl rfl rfl (by decide +kernel) ⟨Nat.le_of_ble_eq_true rfl, Nat.le_of_ble_eq_true rfl⟩) rfl rfl ha510 hT511 (by decide) rfl (Nat.le_of_ble_eq_true rfl) dL_law_396 ⟨hg512.1, hg512.2⟩ hg512.1 hg512.2
    refine g_callXV (ci := 9) (b := a510) (As := [vI x16]) (st := []) (v := some (vI r509)) (M1 := M509) X2 (m_X11_lot l hlx hH0 hq509) (cwV 1 X.2.2.1 gL_law_X11_lot rfl rfl rfl (by decide +kernel) ⟨Nat.le_of_ble_eq_true rfl, Nat.le_of_ble_eq_true rfl⟩) rfl rfl ha510 hT511 (by decide) rfl (Nat.le_of_ble_eq_true rfl) dL_law_396 ⟨hg512.1, hg512.2⟩ ?_
    refine g_if_lt (tgt := 425) X dL_law_399 (by decide) (fun hc => ?_) (fun hc => ?_)
    · have hf := ife_t hc hf
      obtain ⟨w515, hw515, hz515⟩ := oI_e hf
      subst hz515
      have hf := hw515
      obtain ⟨w516, hw516, hz516⟩ := oI_e hf
      subst hz516
      have hf := hw516
      refine g_sub (lvsub_of _ _ [] rfl) ?_
      exact t_L_law_425 X2 hr hlx hH hne hH0 _ _ _ _ hf hK
    · have hf := ife_f hc hf
      refine g_aload_n X dL_law_402 rfl rfl ?_
      refine g_iload X dL_law_403 rfl ?_
      obtain ⟨hT518, hf⟩ := ck_e hf
      obtain ⟨hg519, hf⟩ := ck_e hf
      rcases bx_e hf with ⟨e517, M517, hq517, hf⟩ | ⟨r517, M517, hq517, hf⟩
      · obtain ⟨w520, hw520, hz520⟩ := oI_e hf
        subst hz520
        have hf := hw520
        obtain ⟨w521, hw521, hz521⟩ := oI_e hf
        subst hz521
        have hf := hw521
        cases hf
        refine g_eqQ hK ?_
        exact g_callTV (ci := 9) (b := a510) (As := [vI x16]) (st := []) (M1 := M517) X2 hne (m_X11_lot l hlx hH0 hq517) (cwV 1 X.2.2.1 gL_law_X11_lot rfl rfl rfl (by decide +kernel) ⟨Nat.le_of_ble_eq_true rfl, Nat.le_of_ble_eq_true rfl⟩) rfl rfl ha510 hT518 (by decide) rfl (Nat.le_of_ble_eq_true rfl) dL_law_405 ⟨hg519.1, hg519.2⟩ hg519.1 hg519.2
      refine g_callXV (ci := 9) (b := a510) (As := [vI x16]) (st := []) (v := some (vI r517)) (M1 := M517) X2 (m_X11_lot l hlx hH0 hq517) (cwV 1 X.2.2.1 gL_law_X11_lot rfl rfl rfl (by decide +kernel) ⟨Nat.le_of_ble_eq_true rfl, Nat.le_of_ble_eq_true rfl⟩) rfl rfl ha510 hT518 (by decide) rfl (Nat.le_of_ble_eq_true rfl) dL_law_405 ⟨hg519.1, hg519.2⟩ ?_
      refine g_iload X dL_law_408 rfl ?_
      refine g_icmp_ge (tgt := 425) X dL_law_410 (by decide) (fun hc => ?_) (fun hc => ?_)
      · have hf := ife_t hc hf
        obtain ⟨w522, hw522, hz522⟩ := oI_e hf
        subst hz522
        have hf := hw522
        obtain ⟨w523, hw523, hz523⟩ := oI_e hf
        subst hz523
        have hf := hw523
        refine g_sub (lvsub_of _ _ [] rfl) ?_
        exact t_L_law_425 X2 hr hlx hH hne hH0 _ _ _ _ hf hK
      · have hf := ife_f hc hf
        refine g_aload X dL_law_413 rfl ?_
        refine g_aload_n X dL_law_415 rfl rfl ?_
        refine g_iload X dL_law_416 rfl ?_
        obtain ⟨hT525, hf⟩ := ck_e hf
        obtain ⟨hg526, hf⟩ := ck_e hf
        rcases bx_e hf with ⟨e524, M524, hq524, hf⟩ | ⟨r524, M524, hq524, hf⟩
        · obtain ⟨w527, hw527, hz527⟩ := oI_e hf
          subst hz527
          have hf := hw527
          obtain ⟨w528, hw528, hz528⟩ := oI_e hf
          subst hz528
          have hf := hw528
          cases hf
          refine g_eqQ hK ?_
          exact g_callTV (ci := 9) (b := a510) (As := [vI x16]) (st := [vR x15]) (M1 := M524) X2 hne (m_X11_lot l hlx hH0 hq524) (cwV 1 X.2.2.1 gL_law_X11_lot rfl rfl rfl (by decide +kernel) ⟨Nat.le_of_ble_eq_true rfl, Nat.le_of_ble_eq_true rfl⟩) rfl rfl ha510 hT525 (by decide) rfl (Nat.le_of_ble_eq_true rfl) dL_law_418 ⟨hg526.1, hg526.2⟩ hg526.1 hg526.2
        refine g_callXV (ci := 9) (b := a510) (As := [vI x16]) (st := [vR x15]) (v := some (vI r524)) (M1 := M524) X2 (m_X11_lot l hlx hH0 hq524) (cwV 1 X.2.2.1 gL_law_X11_lot rfl rfl rfl (by decide +kernel) ⟨Nat.le_of_ble_eq_true rfl, Nat.le_of_ble_eq_true rfl⟩) rfl rfl ha510 hT525 (by decide) rfl (Nat.le_of_ble_eq_true rfl) dL_law_418 ⟨hg526.1, hg526.2⟩ ?_
        obtain ⟨a529, ha529, hf⟩ := dr_e hf
        obtain ⟨hT530, hf⟩ := ck_e hf
        obtain ⟨hg531, hf⟩ := ck_e hf
        refine g_zald X dL_law_421 ha529 hT530 hg531 ?_
        refine g_if_eq (tgt := 427) X dL_law_422 (by decide) (fun hc => ?_) (fun hc => ?_)
        · have hf := ife_t hc hf
          refine g_aload X dL_law_427 rfl ?_
          refine g_aload_n X dL_law_429 rfl rfl ?_
          refine g_iload X dL_law_430 rfl ?_
          obtain ⟨hT533, hf⟩ := ck_e hf
          obtain ⟨hg534, hf⟩ := ck_e hf
          rcases bx_e hf with ⟨e532, M532, hq532, hf⟩ | ⟨r532, M532, hq532, hf⟩
          · obtain ⟨w535, hw535, hz535⟩ := oI_e hf
            subst hz535
            have hf := hw535
            obtain ⟨w536, hw536, hz536⟩ := oI_e hf
            subst hz536
            have hf := hw536
            cases hf
            refine g_eqQ hK ?_
            exact g_callTV (ci := 9) (b := a510) (As := [vI x16]) (st := [vR x15]) (M1 := M532) X2 hne (m_X11_lot l hlx hH0 hq532) (cwV 1 X.2.2.1 gL_law_X11_lot rfl rfl rfl (by decide +kernel) ⟨Nat.le_of_ble_eq_true rfl, Nat.le_of_ble_eq_true rfl⟩) rfl rfl ha510 hT533 (by decide) rfl (Nat.le_of_ble_eq_true rfl) dL_law_432 ⟨hg534.1, hg534.2⟩ hg534.1 hg534.2
          refine g_callXV (ci := 9) (b := a510) (As := [vI x16]) (st := [vR x15]) (v := some (vI r532)) (M1 := M532) X2 (m_X11_lot l hlx hH0 hq532) (cwV 1 X.2.2.1 gL_law_X11_lot rfl rfl rfl (by decide +kernel) ⟨Nat.le_of_ble_eq_true rfl, Nat.le_of_ble_eq_true rfl⟩) rfl rfl ha510 hT533 (by decide) rfl (Nat.le_of_ble_eq_true rfl) dL_law_432 ⟨hg534.1, hg534.2⟩ ?_
          refine g_iconst (v := (1 : Int32)) X dL_law_435 (by decide) ?_
          obtain ⟨hT537, hf⟩ := ck_e hf
          obtain ⟨hg538, hf⟩ := ck_e hf
          refine g_zast X dL_law_436 ha529 hT537 hg538 ?_
          obtain ⟨M539, hM539, hf⟩ := lw_e hf
          rw [← hM539]
          have hT540 : mT M539 a529 = 29 := by rw [hM539]; exact hT537
          refine g_iinc (v := (1 : Int32)) (lv' := [(16, vI (x16 + (1 : Int32))), (0, vR (some (Z 400))), (2, vR x2), (3, vR x3), (4, vI x4), (5, vI x5), (6, vI x6), (7, vI x7), (8, vI x8), (9, vI x9), (10, vR x10), (11, vR x11), (12, vR x12), (13, vI x13), (14, vI x14), (15, vR x15)]) X dL_law_437 rfl (by decide) (by decide) rfl ?_
          refine g_goto (tgt := 386) X dL_law_440 (by decide) ?_
          cases hf
          refine g_sub (lvsub_of _ _ [1, 2, 3, 4, 5, 6, 7, 8, 9, 10, 11, 12, 13, 14, 15, 0] rfl) ?_
          exact hK
        · have hf := ife_f hc hf
          obtain ⟨w541, hw541, hz541⟩ := oI_e hf
          subst hz541
          have hf := hw541
          obtain ⟨w542, hw542, hz542⟩ := oI_e hf
          subst hz542
          have hf := hw542
          refine g_sub (lvsub_of _ _ [] rfl) ?_
          exact t_L_law_425 X2 hr hlx hH hne hH0 _ _ _ _ hf hK
set_option maxHeartbeats 4000000 in
set_option maxRecDepth 100000 in
theorem tl_L_law_386 (X2 : gX p s m args meth c D cy B (gSt2 Z B H0) RL cL_law wsL_law 34) (hr : meth.sig.returnType = (some .boolean)) (hlx : l.stackTraces = false) (hH : ∀ q : Nat, q < B → s.heap[q]? = H0[q]?) (hne : ∀ x ∈ c.exceptionTable.toList, False) (hH0 : H0.size = B) {Q : State → Prop} : ∀ (M : gMem) (kc : Nat) (kn : Nat) (x2 : Option Nat) (x3 : Option Nat) (x4 : Int32) (x5 : Int32) (x6 : Int32) (x7 : Int32) (x8 : Int32) (x9 : Int32) (x10 : Option Nat) (x11 : Option Nat) (x12 : Option Nat) (x13 : Int32) (x14 : Int32) (x15 : Option Nat) (x16 : Int32) (z : (gMem × Nat × Nat × Int32) ⊕ ((Nat ⊕ Int32) × gMem)), lp_L_law_386 Z M kc kn x2 x3 x4 x5 x6 x7 x8 x9 x10 x11 x12 x13 x14 x15 x16 = some z → (Sum.elim (fun (q : gMem × Nat × Nat × Int32) => gGo p l e rL_law s m args below meth c D cy B H0 34 q.2.1 q.2.2.1 Q 59 [(0, vR (some (Z 400))), (2, vR x2), (3, vR x3), (4, vI x4), (5, vI x5), (6, vI x6), (7, vI q.2.2.2)] [] q.1) (fun (r : (Nat ⊕ Int32) × gMem) => Q = gMX below D cy B H0 args s 600086 7301442 (gzI r.1) r.2)) z → gGo p l e rL_law s m args below meth c D cy B H0 34 kc kn Q 386 [(0, vR (some (Z 400))), (2, vR x2), (3, vR x3), (4, vI x4), (5, vI x5), (6, vI x6), (7, vI x7), (8, vI x8), (9, vI x9), (10, vR x10), (11, vR x11), (12, vR x12), (13, vI x13), (14, vI x14), (15, vR x15), (16, vI x16)] [] M := by
  intro M kc kn x2 x3 x4 x5 x6 x7 x8 x9 x10 x11 x12 x13 x14 x15 x16 z hf hK
  refine lp_ind (P := (fun (q : gMem × Nat × Nat × Int32) (z : (gMem × Nat × Nat × Int32) ⊕ ((Nat ⊕ Int32) × gMem)) => (Sum.elim (fun (q : gMem × Nat × Nat × Int32) => gGo p l e rL_law s m args below meth c D cy B H0 34 q.2.1 q.2.2.1 Q 59 [(0, vR (some (Z 400))), (2, vR x2), (3, vR x3), (4, vI x4), (5, vI x5), (6, vI x6), (7, vI q.2.2.2)] [] q.1) (fun (r : (Nat ⊕ Int32) × gMem) => Q = gMX below D cy B H0 args s 600086 7301442 (gzI r.1) r.2)) z → gGo p l e rL_law s m args below meth c D cy B H0 34 q.2.1 q.2.2.1 Q 386 [(0, vR (some (Z 400))), (2, vR x2), (3, vR x3), (4, vI x4), (5, vI x5), (6, vI x6), (7, vI x7), (8, vI x8), (9, vI x9), (10, vR x10), (11, vR x11), (12, vR x12), (13, vI x13), (14, vI x14), (15, vR x15), (16, vI q.2.2.2)] [] q.1)) (fun q z hq => ?_) _ _ hf hK
  intro hK
  obtain ⟨w, hw, hm⟩ := hq
  refine tb_L_law_386 X2 hr hlx hH hne hH0 _ _ _ _ _ _ _ _ _ _ _ _ _ _ _ _ _ _ w hw ?_
  cases w with
  | inl a => exact hm hK
  | inr b => cases hm; exact hK
set_option maxHeartbeats 4000000 in
set_option maxRecDepth 100000 in
theorem tb_L_law_327 (X2 : gX p s m args meth c D cy B (gSt2 Z B H0) RL cL_law wsL_law 34) (hr : meth.sig.returnType = (some .boolean)) (hlx : l.stackTraces = false) (hH : ∀ q : Nat, q < B → s.heap[q]? = H0[q]?) (hne : ∀ x ∈ c.exceptionTable.toList, False) (hH0 : H0.size = B) {Q : State → Prop} : ∀ (M : gMem) (kc : Nat) (kn : Nat) (x2 : Option Nat) (x3 : Option Nat) (x4 : Int32) (x5 : Int32) (x6 : Int32) (x7 : Int32) (x8 : Int32) (x9 : Int32) (x10 : Option Nat) (x11 : Option Nat) (x12 : Option Nat) (x13 : Int32) (x14 : Int32) (z : (gMem × Nat × Nat × Int32) ⊕ ((gMem × Nat × Nat × Int32) ⊕ ((gMem × Nat × Nat × Int32) ⊕ ((Nat ⊕ Int32) × gMem)))), bb_L_law_327 Z M kc kn x2 x3 x4 x5 x6 x7 x8 x9 x10 x11 x12 x13 x14 = some z → (Sum.elim (fun (q : gMem × Nat × Nat × Int32) => gGo p l e rL_law s m args below meth c D cy B H0 34 q.2.1 q.2.2.1 Q 327 [(0, vR (some (Z 400))), (2, vR x2), (3, vR x3), (4, vI x4), (5, vI x5), (6, vI x6), (7, vI x7), (8, vI x8), (9, vI x9), (10, vR x10), (11, vR x11), (12, vR x12), (13, vI x13), (14, vI q.2.2.2)] [] q.1) (Sum.elim (fun (q : gMem × Nat × Nat × Int32) => gGo p l e rL_law s m args below meth c D cy B H0 34 q.2.1 q.2.2.1 Q 317 [(0, vR (some (Z 400))), (2, vR x2), (3, vR x3), (4, vI x4), (5, vI x5), (6, vI x6), (7, vI x7), (8, vI x8), (9, vI x9), (10, vR x10), (11, vR x11), (12, vR x12), (13, vI q.2.2.2)] [] q.1) (Sum.elim (fun (q : gMem × Nat × Nat × Int32) => gGo p l e rL_law s m args below meth c D cy B H0 34 q.2.1 q.2.2.1 Q 59 [(0, vR (some (Z 400))), (2, vR x2), (3, vR x3), (4, vI x4), (5, vI x5), (6, vI x6), (7, vI q.2.2.2)] [] q.1) (fun (r : (Nat ⊕ Int32) × gMem) => Q = gMX below D cy B H0 args s 600086 7301442 (gzI r.1) r.2)))) z → gGo p l e rL_law s m args below meth c D cy B H0 34 kc kn Q 327 [(0, vR (some (Z 400))), (2, vR x2), (3, vR x3), (4, vI x4), (5, vI x5), (6, vI x6), (7, vI x7), (8, vI x8), (9, vI x9), (10, vR x10), (11, vR x11), (12, vR x12), (13, vI x13), (14, vI x14)] [] M := by
  intro M kc kn x2 x3 x4 x5 x6 x7 x8 x9 x10 x11 x12 x13 x14 z hf hK
  unfold bb_L_law_327 at hf
  have X := gX_w X2
  refine g_iload X dL_law_327 rfl ?_
  refine g_bipush (v := (7 : Int32)) X dL_law_329 (by decide) ?_
  refine g_icmp_ge (tgt := 356) X dL_law_331 (by decide) (fun hc => ?_) (fun hc => ?_)
  · have hf := ife_t hc hf
    refine g_iinc (v := (1 : Int32)) (lv' := [(13, vI (x13 + (1 : Int32))), (0, vR (some (Z 400))), (2, vR x2), (3, vR x3), (4, vI x4), (5, vI x5), (6, vI x6), (7, vI x7), (8, vI x8), (9, vI x9), (10, vR x10), (11, vR x11), (12, vR x12), (14, vI x14)]) X dL_law_356 rfl (by decide) (by decide) rfl ?_
    refine g_goto (tgt := 317) X dL_law_359 (by decide) ?_
    obtain ⟨w543, hw543, hz543⟩ := oI_e hf
    subst hz543
    have hf := hw543
    cases hf
    refine g_sub (lvsub_of _ _ [1, 2, 3, 4, 5, 6, 7, 8, 9, 10, 11, 12, 0] rfl) ?_
    exact hK
  · have hf := ife_f hc hf
    refine g_aload X dL_law_334 rfl ?_
    refine g_iload X dL_law_336 rfl ?_
    obtain ⟨a544, ha544, hf⟩ := dr_e hf
    obtain ⟨hT545, hf⟩ := ck_e hf
    obtain ⟨hg546, hf⟩ := ck_e hf
    refine g_aaldA X dL_law_338 ha544 hT545 hg546 ?_
    refine g_iload X dL_law_339 rfl ?_
    refine g_aload_n X dL_law_341 rfl rfl ?_
    refine g_iload X dL_law_342 rfl ?_
    refine g_iload X dL_law_344 rfl ?_
    obtain ⟨a548, ha548, hf⟩ := dr_e hf
    obtain ⟨hT549, hf⟩ := ck_e hf
    obtain ⟨hg550, hf⟩ := ck_e hf
    rcases bx_e hf with ⟨e547, M547, hq547, hf⟩ | ⟨r547, M547, hq547, hf⟩
    · obtain ⟨w551, hw551, hz551⟩ := oI_e hf
      subst hz551
      have hf := hw551
      obtain ⟨w552, hw552, hz552⟩ := oI_e hf
      subst hz552
      have hf := hw552
      obtain ⟨w553, hw553, hz553⟩ := oI_e hf
      subst hz553
      have hf := hw553
      cases hf
      refine g_eqQ hK ?_
      exact g_callTV (ci := 9) (b := a548) (As := [vI x13, vI x14]) (st := [vI x14, vR (mR M a544 x13.toNatClampNeg)]) (M1 := M547) X2 hne (m_X11_pact l hlx hH0 hq547) (cwV 2 X.2.2.1 gL_law_X11_pact rfl rfl rfl (by decide +kernel) ⟨Nat.le_of_ble_eq_true rfl, Nat.le_of_ble_eq_true rfl⟩) rfl rfl ha548 hT549 (by decide) rfl (Nat.le_of_ble_eq_true rfl) dL_law_346 ⟨hg550.1, hg550.2⟩ hg550.1 hg550.2
    refine g_callXV (ci := 9) (b := a548) (As := [vI x13, vI x14]) (st := [vI x14, vR (mR M a544 x13.toNatClampNeg)]) (v := some (vI r547)) (M1 := M547) X2 (m_X11_pact l hlx hH0 hq547) (cwV 2 X.2.2.1 gL_law_X11_pact rfl rfl rfl (by decide +kernel) ⟨Nat.le_of_ble_eq_true rfl, Nat.le_of_ble_eq_true rfl⟩) rfl rfl ha548 hT549 (by decide) rfl (Nat.le_of_ble_eq_true rfl) dL_law_346 ⟨hg550.1, hg550.2⟩ ?_
    obtain ⟨a554, ha554, hf⟩ := dr_e hf
    obtain ⟨hT555, hf⟩ := ck_e hf
    obtain ⟨hg556, hf⟩ := ck_e hf
    refine g_iast X dL_law_349 ha554 hT555 hg556 ?_
    obtain ⟨M557, hM557, hf⟩ := lw_e hf
    rw [← hM557]
    have hT558 : mT M557 a554 = 20 := by rw [hM557]; exact hT555
    refine g_iinc (v := (1 : Int32)) (lv' := [(14, vI (x14 + (1 : Int32))), (0, vR (some (Z 400))), (2, vR x2), (3, vR x3), (4, vI x4), (5, vI x5), (6, vI x6), (7, vI x7), (8, vI x8), (9, vI x9), (10, vR x10), (11, vR x11), (12, vR x12), (13, vI x13)]) X dL_law_350 rfl (by decide) (by decide) rfl ?_
    refine g_goto (tgt := 327) X dL_law_353 (by decide) ?_
    cases hf
    refine g_sub (lvsub_of _ _ [1, 2, 3, 4, 5, 6, 7, 8, 9, 10, 11, 12, 13, 0] rfl) ?_
    exact hK
set_option maxHeartbeats 4000000 in
set_option maxRecDepth 100000 in
theorem tl_L_law_327 (X2 : gX p s m args meth c D cy B (gSt2 Z B H0) RL cL_law wsL_law 34) (hr : meth.sig.returnType = (some .boolean)) (hlx : l.stackTraces = false) (hH : ∀ q : Nat, q < B → s.heap[q]? = H0[q]?) (hne : ∀ x ∈ c.exceptionTable.toList, False) (hH0 : H0.size = B) {Q : State → Prop} : ∀ (M : gMem) (kc : Nat) (kn : Nat) (x2 : Option Nat) (x3 : Option Nat) (x4 : Int32) (x5 : Int32) (x6 : Int32) (x7 : Int32) (x8 : Int32) (x9 : Int32) (x10 : Option Nat) (x11 : Option Nat) (x12 : Option Nat) (x13 : Int32) (x14 : Int32) (z : (gMem × Nat × Nat × Int32) ⊕ ((gMem × Nat × Nat × Int32) ⊕ ((Nat ⊕ Int32) × gMem))), lp_L_law_327 Z M kc kn x2 x3 x4 x5 x6 x7 x8 x9 x10 x11 x12 x13 x14 = some z → (Sum.elim (fun (q : gMem × Nat × Nat × Int32) => gGo p l e rL_law s m args below meth c D cy B H0 34 q.2.1 q.2.2.1 Q 317 [(0, vR (some (Z 400))), (2, vR x2), (3, vR x3), (4, vI x4), (5, vI x5), (6, vI x6), (7, vI x7), (8, vI x8), (9, vI x9), (10, vR x10), (11, vR x11), (12, vR x12), (13, vI q.2.2.2)] [] q.1) (Sum.elim (fun (q : gMem × Nat × Nat × Int32) => gGo p l e rL_law s m args below meth c D cy B H0 34 q.2.1 q.2.2.1 Q 59 [(0, vR (some (Z 400))), (2, vR x2), (3, vR x3), (4, vI x4), (5, vI x5), (6, vI x6), (7, vI q.2.2.2)] [] q.1) (fun (r : (Nat ⊕ Int32) × gMem) => Q = gMX below D cy B H0 args s 600086 7301442 (gzI r.1) r.2))) z → gGo p l e rL_law s m args below meth c D cy B H0 34 kc kn Q 327 [(0, vR (some (Z 400))), (2, vR x2), (3, vR x3), (4, vI x4), (5, vI x5), (6, vI x6), (7, vI x7), (8, vI x8), (9, vI x9), (10, vR x10), (11, vR x11), (12, vR x12), (13, vI x13), (14, vI x14)] [] M := by
  intro M kc kn x2 x3 x4 x5 x6 x7 x8 x9 x10 x11 x12 x13 x14 z hf hK
  refine lp_ind (P := (fun (q : gMem × Nat × Nat × Int32) (z : (gMem × Nat × Nat × Int32) ⊕ ((gMem × Nat × Nat × Int32) ⊕ ((Nat ⊕ Int32) × gMem))) => (Sum.elim (fun (q : gMem × Nat × Nat × Int32) => gGo p l e rL_law s m args below meth c D cy B H0 34 q.2.1 q.2.2.1 Q 317 [(0, vR (some (Z 400))), (2, vR x2), (3, vR x3), (4, vI x4), (5, vI x5), (6, vI x6), (7, vI x7), (8, vI x8), (9, vI x9), (10, vR x10), (11, vR x11), (12, vR x12), (13, vI q.2.2.2)] [] q.1) (Sum.elim (fun (q : gMem × Nat × Nat × Int32) => gGo p l e rL_law s m args below meth c D cy B H0 34 q.2.1 q.2.2.1 Q 59 [(0, vR (some (Z 400))), (2, vR x2), (3, vR x3), (4, vI x4), (5, vI x5), (6, vI x6), (7, vI q.2.2.2)] [] q.1) (fun (r : (Nat ⊕ Int32) × gMem) => Q = gMX below D cy B H0 args s 600086 7301442 (gzI r.1) r.2))) z → gGo p l e rL_law s m args below meth c D cy B H0 34 q.2.1 q.2.2.1 Q 327 [(0, vR (some (Z 400))), (2, vR x2), (3, vR x3), (4, vI x4), (5, vI x5), (6, vI x6), (7, vI x7), (8, vI x8), (9, vI x9), (10, vR x10), (11, vR x11), (12, vR x12), (13, vI x13), (14, vI q.2.2.2)] [] q.1)) (fun q z hq => ?_) _ _ hf hK
  intro hK
  obtain ⟨w, hw, hm⟩ := hq
  refine tb_L_law_327 X2 hr hlx hH hne hH0 _ _ _ _ _ _ _ _ _ _ _ _ _ _ _ _ w hw ?_
  cases w with
  | inl a => exact hm hK
  | inr b => cases hm; exact hK
set_option maxHeartbeats 4000000 in
set_option maxRecDepth 100000 in
theorem tb_L_law_317 (X2 : gX p s m args meth c D cy B (gSt2 Z B H0) RL cL_law wsL_law 34) (hr : meth.sig.returnType = (some .boolean)) (hlx : l.stackTraces = false) (hH : ∀ q : Nat, q < B → s.heap[q]? = H0[q]?) (hne : ∀ x ∈ c.exceptionTable.toList, False) (hH0 : H0.size = B) {Q : State → Prop} : ∀ (M : gMem) (kc : Nat) (kn : Nat) (x2 : Option Nat) (x3 : Option Nat) (x4 : Int32) (x5 : Int32) (x6 : Int32) (x7 : Int32) (x8 : Int32) (x9 : Int32) (x10 : Option Nat) (x11 : Option Nat) (x12 : Option Nat) (x13 : Int32) (z : (gMem × Nat × Nat × Int32) ⊕ ((gMem × Nat × Nat × Int32) ⊕ ((Nat ⊕ Int32) × gMem))), bb_L_law_317 Z M kc kn x2 x3 x4 x5 x6 x7 x8 x9 x10 x11 x12 x13 = some z → (Sum.elim (fun (q : gMem × Nat × Nat × Int32) => gGo p l e rL_law s m args below meth c D cy B H0 34 q.2.1 q.2.2.1 Q 317 [(0, vR (some (Z 400))), (2, vR x2), (3, vR x3), (4, vI x4), (5, vI x5), (6, vI x6), (7, vI x7), (8, vI x8), (9, vI x9), (10, vR x10), (11, vR x11), (12, vR x12), (13, vI q.2.2.2)] [] q.1) (Sum.elim (fun (q : gMem × Nat × Nat × Int32) => gGo p l e rL_law s m args below meth c D cy B H0 34 q.2.1 q.2.2.1 Q 59 [(0, vR (some (Z 400))), (2, vR x2), (3, vR x3), (4, vI x4), (5, vI x5), (6, vI x6), (7, vI q.2.2.2)] [] q.1) (fun (r : (Nat ⊕ Int32) × gMem) => Q = gMX below D cy B H0 args s 600086 7301442 (gzI r.1) r.2))) z → gGo p l e rL_law s m args below meth c D cy B H0 34 kc kn Q 317 [(0, vR (some (Z 400))), (2, vR x2), (3, vR x3), (4, vI x4), (5, vI x5), (6, vI x6), (7, vI x7), (8, vI x8), (9, vI x9), (10, vR x10), (11, vR x11), (12, vR x12), (13, vI x13)] [] M := by
  intro M kc kn x2 x3 x4 x5 x6 x7 x8 x9 x10 x11 x12 x13 z hf hK
  unfold bb_L_law_317 at hf
  have X := gX_w X2
  refine g_iload X dL_law_317 rfl ?_
  refine g_iload X dL_law_319 rfl ?_
  refine g_icmp_ge (tgt := 362) X dL_law_321 (by decide) (fun hc => ?_) (fun hc => ?_)
  · have hf := ife_t hc hf
    refine g_aload_n X dL_law_362 rfl rfl ?_
    refine g_iconst (v := (0 : Int32)) X dL_law_363 (by decide) ?_
    obtain ⟨a560, ha560, hf⟩ := dr_e hf
    obtain ⟨hT561, hf⟩ := ck_e hf
    obtain ⟨hg562, hf⟩ := ck_e hf
    rcases bx_e hf with ⟨e559, M559, hq559, hf⟩ | ⟨r559, M559, hq559, hf⟩
    · obtain ⟨w563, hw563, hz563⟩ := oI_e hf
      subst hz563
      have hf := hw563
      obtain ⟨w564, hw564, hz564⟩ := oI_e hf
      subst hz564
      have hf := hw564
      cases hf
      refine g_eqQ hK ?_
      exact g_callTV (ci := 9) (b := a560) (As := [vI (0 : Int32)]) (st := []) (M1 := M559) X2 hne (m_X11_count l hlx hH0 hq559) (cwV 1 X.2.2.1 gL_law_X11_count rfl rfl rfl (by decide +kernel) ⟨Nat.le_of_ble_eq_true rfl, Nat.le_of_ble_eq_true rfl⟩) rfl rfl ha560 hT561 (by decide) rfl (Nat.le_of_ble_eq_true rfl) dL_law_364 ⟨hg562.1, hg562.2⟩ hg562.1 hg562.2
    refine g_callXV (ci := 9) (b := a560) (As := [vI (0 : Int32)]) (st := []) (v := some (vI r559)) (M1 := M559) X2 (m_X11_count l hlx hH0 hq559) (cwV 1 X.2.2.1 gL_law_X11_count rfl rfl rfl (by decide +kernel) ⟨Nat.le_of_ble_eq_true rfl, Nat.le_of_ble_eq_true rfl⟩) rfl rfl ha560 hT561 (by decide) rfl (Nat.le_of_ble_eq_true rfl) dL_law_364 ⟨hg562.1, hg562.2⟩ ?_
    refine g_istore (lv' := [(13, vI r559), (0, vR (some (Z 400))), (2, vR x2), (3, vR x3), (4, vI x4), (5, vI x5), (6, vI x6), (7, vI x7), (8, vI x8), (9, vI x9), (10, vR x10), (11, vR x11), (12, vR x12)]) X dL_law_367 (by decide) rfl ?_
    refine g_aload_n X dL_law_369 rfl rfl ?_
    refine g_bipush (v := (6 : Int32)) X dL_law_370 (by decide) ?_
    obtain ⟨hT566, hf⟩ := ck_e hf
    obtain ⟨hg567, hf⟩ := ck_e hf
    rcases bx_e hf with ⟨e565, M565, hq565, hf⟩ | ⟨r565, M565, hq565, hf⟩
    · obtain ⟨w568, hw568, hz568⟩ := oI_e hf
      subst hz568
      have hf := hw568
      obtain ⟨w569, hw569, hz569⟩ := oI_e hf
      subst hz569
      have hf := hw569
      cases hf
      refine g_eqQ hK ?_
      exact g_callTV (ci := 9) (b := a560) (As := [vI (6 : Int32)]) (st := []) (M1 := M565) X2 hne (m_X11_count l hlx hH0 hq565) (cwV 1 X.2.2.1 gL_law_X11_count rfl rfl rfl (by decide +kernel) ⟨Nat.le_of_ble_eq_true rfl, Nat.le_of_ble_eq_true rfl⟩) rfl rfl ha560 hT566 (by decide) rfl (Nat.le_of_ble_eq_true rfl) dL_law_372 ⟨hg567.1, hg567.2⟩ hg567.1 hg567.2
    refine g_callXV (ci := 9) (b := a560) (As := [vI (6 : Int32)]) (st := []) (v := some (vI r565)) (M1 := M565) X2 (m_X11_count l hlx hH0 hq565) (cwV 1 X.2.2.1 gL_law_X11_count rfl rfl rfl (by decide +kernel) ⟨Nat.le_of_ble_eq_true rfl, Nat.le_of_ble_eq_true rfl⟩) rfl rfl ha560 hT566 (by decide) rfl (Nat.le_of_ble_eq_true rfl) dL_law_372 ⟨hg567.1, hg567.2⟩ ?_
    refine g_istore (lv' := [(14, vI r565), (13, vI r559), (0, vR (some (Z 400))), (2, vR x2), (3, vR x3), (4, vI x4), (5, vI x5), (6, vI x6), (7, vI x7), (8, vI x8), (9, vI x9), (10, vR x10), (11, vR x11), (12, vR x12)]) X dL_law_375 (by decide) rfl ?_
    refine g_iload X dL_law_377 rfl ?_
    obtain ⟨hg570, hf⟩ := ck_e hf
    obtain ⟨hg571, hf⟩ := ck_e hf
    obtain ⟨hg572, hf⟩ := ck_e hf
    refine g_newa (at' := .boolean) (t0 := 0) X k_L_law_acboolean (by exact Or.inr (Or.inr (Or.inr ⟨rfl, rfl⟩))) hg570 (by omega) ⟨hg572.1, Nat.le_trans (Nat.add_le_add_left hg571 _) hg572.2⟩ dL_law_379 ?_
    refine g_wide (k' := (((kc + 1) + 1) + 1)) (n' := (((kn + 6) + 6) + 8)) (Nat.le_refl _) (Nat.add_le_add_left hg571 _) ?_
    obtain ⟨M573, hM573, hf⟩ := lw_e hf
    rw [← hM573]
    refine g_astore (lv' := [(15, vR (some (mN M565))), (14, vI r565), (13, vI r559), (0, vR (some (Z 400))), (2, vR x2), (3, vR x3), (4, vI x4), (5, vI x5), (6, vI x6), (7, vI x7), (8, vI x8), (9, vI x9), (10, vR x10), (11, vR x11), (12, vR x12)]) X dL_law_381 (by decide) rfl ?_
    refine g_iconst (v := (0 : Int32)) X dL_law_383 (by decide) ?_
    refine g_istore (lv' := [(16, vI (0 : Int32)), (15, vR (some (mN M565))), (14, vI r565), (13, vI r559), (0, vR (some (Z 400))), (2, vR x2), (3, vR x3), (4, vI x4), (5, vI x5), (6, vI x6), (7, vI x7), (8, vI x8), (9, vI x9), (10, vR x10), (11, vR x11), (12, vR x12)]) X dL_law_384 (by decide) rfl ?_
    obtain ⟨w574, hw574, hz574⟩ := oI_e hf
    subst hz574
    have hf := hw574
    refine g_sub (lvsub_of _ _ [4, 5, 6, 7, 8, 9, 10, 11, 12, 13, 14, 15, 3, 2, 1, 0] rfl) ?_
    exact tl_L_law_386 X2 hr hlx hH hne hH0 _ _ _ _ _ _ _ _ _ _ _ _ _ _ _ _ _ _ _ hf hK
  · have hf := ife_f hc hf
    refine g_iconst (v := (0 : Int32)) X dL_law_324 (by decide) ?_
    refine g_istore (lv' := [(14, vI (0 : Int32)), (0, vR (some (Z 400))), (2, vR x2), (3, vR x3), (4, vI x4), (5, vI x5), (6, vI x6), (7, vI x7), (8, vI x8), (9, vI x9), (10, vR x10), (11, vR x11), (12, vR x12), (13, vI x13)]) X dL_law_325 (by decide) rfl ?_
    refine g_sub (lvsub_of _ _ [1, 2, 3, 4, 5, 6, 7, 8, 9, 10, 11, 12, 13, 0] rfl) ?_
    exact tl_L_law_327 X2 hr hlx hH hne hH0 _ _ _ _ _ _ _ _ _ _ _ _ _ _ _ _ _ hf hK
set_option maxHeartbeats 4000000 in
set_option maxRecDepth 100000 in
theorem tl_L_law_317 (X2 : gX p s m args meth c D cy B (gSt2 Z B H0) RL cL_law wsL_law 34) (hr : meth.sig.returnType = (some .boolean)) (hlx : l.stackTraces = false) (hH : ∀ q : Nat, q < B → s.heap[q]? = H0[q]?) (hne : ∀ x ∈ c.exceptionTable.toList, False) (hH0 : H0.size = B) {Q : State → Prop} : ∀ (M : gMem) (kc : Nat) (kn : Nat) (x2 : Option Nat) (x3 : Option Nat) (x4 : Int32) (x5 : Int32) (x6 : Int32) (x7 : Int32) (x8 : Int32) (x9 : Int32) (x10 : Option Nat) (x11 : Option Nat) (x12 : Option Nat) (x13 : Int32) (z : (gMem × Nat × Nat × Int32) ⊕ ((Nat ⊕ Int32) × gMem)), lp_L_law_317 Z M kc kn x2 x3 x4 x5 x6 x7 x8 x9 x10 x11 x12 x13 = some z → (Sum.elim (fun (q : gMem × Nat × Nat × Int32) => gGo p l e rL_law s m args below meth c D cy B H0 34 q.2.1 q.2.2.1 Q 59 [(0, vR (some (Z 400))), (2, vR x2), (3, vR x3), (4, vI x4), (5, vI x5), (6, vI x6), (7, vI q.2.2.2)] [] q.1) (fun (r : (Nat ⊕ Int32) × gMem) => Q = gMX below D cy B H0 args s 600086 7301442 (gzI r.1) r.2)) z → gGo p l e rL_law s m args below meth c D cy B H0 34 kc kn Q 317 [(0, vR (some (Z 400))), (2, vR x2), (3, vR x3), (4, vI x4), (5, vI x5), (6, vI x6), (7, vI x7), (8, vI x8), (9, vI x9), (10, vR x10), (11, vR x11), (12, vR x12), (13, vI x13)] [] M := by
  intro M kc kn x2 x3 x4 x5 x6 x7 x8 x9 x10 x11 x12 x13 z hf hK
  refine lp_ind (P := (fun (q : gMem × Nat × Nat × Int32) (z : (gMem × Nat × Nat × Int32) ⊕ ((Nat ⊕ Int32) × gMem)) => (Sum.elim (fun (q : gMem × Nat × Nat × Int32) => gGo p l e rL_law s m args below meth c D cy B H0 34 q.2.1 q.2.2.1 Q 59 [(0, vR (some (Z 400))), (2, vR x2), (3, vR x3), (4, vI x4), (5, vI x5), (6, vI x6), (7, vI q.2.2.2)] [] q.1) (fun (r : (Nat ⊕ Int32) × gMem) => Q = gMX below D cy B H0 args s 600086 7301442 (gzI r.1) r.2)) z → gGo p l e rL_law s m args below meth c D cy B H0 34 q.2.1 q.2.2.1 Q 317 [(0, vR (some (Z 400))), (2, vR x2), (3, vR x3), (4, vI x4), (5, vI x5), (6, vI x6), (7, vI x7), (8, vI x8), (9, vI x9), (10, vR x10), (11, vR x11), (12, vR x12), (13, vI q.2.2.2)] [] q.1)) (fun q z hq => ?_) _ _ hf hK
  intro hK
  obtain ⟨w, hw, hm⟩ := hq
  refine tb_L_law_317 X2 hr hlx hH hne hH0 _ _ _ _ _ _ _ _ _ _ _ _ _ _ _ w hw ?_
  cases w with
  | inl a => exact hm hK
  | inr b => cases hm; exact hK
set_option maxHeartbeats 4000000 in
set_option maxRecDepth 100000 in
theorem tb_L_law_269 (X2 : gX p s m args meth c D cy B (gSt2 Z B H0) RL cL_law wsL_law 34) (hr : meth.sig.returnType = (some .boolean)) (hlx : l.stackTraces = false) (hH : ∀ q : Nat, q < B → s.heap[q]? = H0[q]?) (hne : ∀ x ∈ c.exceptionTable.toList, False) (hH0 : H0.size = B) {Q : State → Prop} : ∀ (M : gMem) (kc : Nat) (kn : Nat) (x2 : Option Nat) (x3 : Option Nat) (x4 : Int32) (x5 : Int32) (x6 : Int32) (x7 : Int32) (x8 : Int32) (x9 : Int32) (x10 : Option Nat) (x11 : Option Nat) (x12 : Int32) (x13 : Int32) (z : (gMem × Nat × Nat × Int32) ⊕ ((gMem × Nat × Nat × Int32) ⊕ ((gMem × Nat × Nat × Int32) ⊕ ((Nat ⊕ Int32) × gMem)))), bb_L_law_269 Z M kc kn x2 x3 x4 x5 x6 x7 x8 x9 x10 x11 x12 x13 = some z → (Sum.elim (fun (q : gMem × Nat × Nat × Int32) => gGo p l e rL_law s m args below meth c D cy B H0 34 q.2.1 q.2.2.1 Q 269 [(0, vR (some (Z 400))), (2, vR x2), (3, vR x3), (4, vI x4), (5, vI x5), (6, vI x6), (7, vI x7), (8, vI x8), (9, vI x9), (10, vR x10), (11, vR x11), (12, vI x12), (13, vI q.2.2.2)] [] q.1) (Sum.elim (fun (q : gMem × Nat × Nat × Int32) => gGo p l e rL_law s m args below meth c D cy B H0 34 q.2.1 q.2.2.1 Q 259 [(0, vR (some (Z 400))), (2, vR x2), (3, vR x3), (4, vI x4), (5, vI x5), (6, vI x6), (7, vI x7), (8, vI x8), (9, vI x9), (10, vR x10), (11, vR x11), (12, vI q.2.2.2)] [] q.1) (Sum.elim (fun (q : gMem × Nat × Nat × Int32) => gGo p l e rL_law s m args below meth c D cy B H0 34 q.2.1 q.2.2.1 Q 59 [(0, vR (some (Z 400))), (2, vR x2), (3, vR x3), (4, vI x4), (5, vI x5), (6, vI x6), (7, vI q.2.2.2)] [] q.1) (fun (r : (Nat ⊕ Int32) × gMem) => Q = gMX below D cy B H0 args s 600086 7301442 (gzI r.1) r.2)))) z → gGo p l e rL_law s m args below meth c D cy B H0 34 kc kn Q 269 [(0, vR (some (Z 400))), (2, vR x2), (3, vR x3), (4, vI x4), (5, vI x5), (6, vI x6), (7, vI x7), (8, vI x8), (9, vI x9), (10, vR x10), (11, vR x11), (12, vI x12), (13, vI x13)] [] M := by
  intro M kc kn x2 x3 x4 x5 x6 x7 x8 x9 x10 x11 x12 x13 z hf hK
  unfold bb_L_law_269 at hf
  have X := gX_w X2
  refine g_iload X dL_law_269 rfl ?_
  refine g_bipush (v := (9 : Int32)) X dL_law_271 (by decide) ?_
  refine g_icmp_ge (tgt := 298) X dL_law_273 (by decide) (fun hc => ?_) (fun hc => ?_)
  · have hf := ife_t hc hf
    refine g_iinc (v := (1 : Int32)) (lv' := [(12, vI (x12 + (1 : Int32))), (0, vR (some (Z 400))), (2, vR x2), (3, vR x3), (4, vI x4), (5, vI x5), (6, vI x6), (7, vI x7), (8, vI x8), (9, vI x9), (10, vR x10), (11, vR x11), (13, vI x13)]) X dL_law_298 rfl (by decide) (by decide) rfl ?_
    refine g_goto (tgt := 259) X dL_law_301 (by decide) ?_
    obtain ⟨w575, hw575, hz575⟩ := oI_e hf
    subst hz575
    have hf := hw575
    cases hf
    refine g_sub (lvsub_of _ _ [1, 2, 3, 4, 5, 6, 7, 8, 9, 10, 11, 0] rfl) ?_
    exact hK
  · have hf := ife_f hc hf
    refine g_aload X dL_law_276 rfl ?_
    refine g_iload X dL_law_278 rfl ?_
    obtain ⟨a576, ha576, hf⟩ := dr_e hf
    obtain ⟨hT577, hf⟩ := ck_e hf
    obtain ⟨hg578, hf⟩ := ck_e hf
    refine g_aaldA X dL_law_280 ha576 hT577 hg578 ?_
    refine g_iload X dL_law_281 rfl ?_
    refine g_aload_n X dL_law_283 rfl rfl ?_
    refine g_iload X dL_law_284 rfl ?_
    refine g_iload X dL_law_286 rfl ?_
    obtain ⟨a580, ha580, hf⟩ := dr_e hf
    obtain ⟨hT581, hf⟩ := ck_e hf
    obtain ⟨hg582, hf⟩ := ck_e hf
    rcases bx_e hf with ⟨e579, M579, hq579, hf⟩ | ⟨r579, M579, hq579, hf⟩
    · obtain ⟨w583, hw583, hz583⟩ := oI_e hf
      subst hz583
      have hf := hw583
      obtain ⟨w584, hw584, hz584⟩ := oI_e hf
      subst hz584
      have hf := hw584
      obtain ⟨w585, hw585, hz585⟩ := oI_e hf
      subst hz585
      have hf := hw585
      cases hf
      refine g_eqQ hK ?_
      exact g_callTV (ci := 9) (b := a580) (As := [vI x12, vI x13]) (st := [vI x13, vR (mR M a576 x12.toNatClampNeg)]) (M1 := M579) X2 hne (m_X11_ground l hlx hH0 hq579) (cwV 2 X.2.2.1 gL_law_X11_ground rfl rfl rfl (by decide +kernel) ⟨Nat.le_of_ble_eq_true rfl, Nat.le_of_ble_eq_true rfl⟩) rfl rfl ha580 hT581 (by decide) rfl (Nat.le_of_ble_eq_true rfl) dL_law_288 ⟨hg582.1, hg582.2⟩ hg582.1 hg582.2
    refine g_callXV (ci := 9) (b := a580) (As := [vI x12, vI x13]) (st := [vI x13, vR (mR M a576 x12.toNatClampNeg)]) (v := some (vI r579)) (M1 := M579) X2 (m_X11_ground l hlx hH0 hq579) (cwV 2 X.2.2.1 gL_law_X11_ground rfl rfl rfl (by decide +kernel) ⟨Nat.le_of_ble_eq_true rfl, Nat.le_of_ble_eq_true rfl⟩) rfl rfl ha580 hT581 (by decide) rfl (Nat.le_of_ble_eq_true rfl) dL_law_288 ⟨hg582.1, hg582.2⟩ ?_
    obtain ⟨a586, ha586, hf⟩ := dr_e hf
    obtain ⟨hT587, hf⟩ := ck_e hf
    obtain ⟨hg588, hf⟩ := ck_e hf
    refine g_iast X dL_law_291 ha586 hT587 hg588 ?_
    obtain ⟨M589, hM589, hf⟩ := lw_e hf
    rw [← hM589]
    have hT590 : mT M589 a586 = 20 := by rw [hM589]; exact hT587
    refine g_iinc (v := (1 : Int32)) (lv' := [(13, vI (x13 + (1 : Int32))), (0, vR (some (Z 400))), (2, vR x2), (3, vR x3), (4, vI x4), (5, vI x5), (6, vI x6), (7, vI x7), (8, vI x8), (9, vI x9), (10, vR x10), (11, vR x11), (12, vI x12)]) X dL_law_292 rfl (by decide) (by decide) rfl ?_
    refine g_goto (tgt := 269) X dL_law_295 (by decide) ?_
    cases hf
    refine g_sub (lvsub_of _ _ [1, 2, 3, 4, 5, 6, 7, 8, 9, 10, 11, 12, 0] rfl) ?_
    exact hK
end
