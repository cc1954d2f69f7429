/-! The law's walk, 1 (written by law99h.py) -/
section
variable {p : Program} {l : Launch} {e : Env} {s : State} {m : MethodId} {args : Array Value} {below : List Frame} {meth : Method} {c : Code} {D : va_G} {cy : Nat → ClassId} {B : Nat} {H0 : Heap} {Z : Nat → Nat}
abbrev rL_law : Room := { frames := 2048, cells := 600086, slots := 7301442, locals := 84000 }
/-! ## TideLotsLaw.law([I)Z -/
set_option maxHeartbeats 4000000 in
set_option maxRecDepth 100000 in
theorem t_L_law_1586 (X2 : gX p s m args meth c D cy B (gSt2 Z B H0) RL cL_law wsL_law 34) (hr : meth.sig.returnType = (some .boolean)) (hlx : l.stackTraces = false) (hH : ∀ q : Nat, q < B → s.heap[q]? = H0[q]?) (hne : ∀ x ∈ c.exceptionTable.toList, False) (hH0 : H0.size = B) {Q : State → Prop} : ∀ (M : gMem) (kc : Nat) (kn : Nat) (z : (Nat ⊕ Int32) × gMem), b_L_law_1586 Z M kc kn = some z → (fun (r : (Nat ⊕ Int32) × gMem) => Q = gMX below D cy B H0 args s 600086 7301442 (gzI r.1) r.2) z → gGo p l e rL_law s m args below meth c D cy B H0 34 kc kn Q 1586 [] [] M := by
  intro M kc kn z hf hK
  unfold b_L_law_1586 at hf
  have X := gX_w X2
  refine g_iconst (v := (0 : Int32)) X dL_law_1586 (by decide) ?_
  obtain ⟨hg1, hf⟩ := ck_e hf
  cases hf
  refine g_eqQ hK ?_
  refine g_wide (k' := 600086) (n' := 7301442) hg1.1 hg1.2 ?_
  refine g_xret ?_
  exact g_zret X hr (gnb (Or.inl rfl)) dL_law_1587
set_option maxHeartbeats 4000000 in
set_option maxRecDepth 100000 in
theorem t_L_law_1576 (X2 : gX p s m args meth c D cy B (gSt2 Z B H0) RL cL_law wsL_law 34) (hr : meth.sig.returnType = (some .boolean)) (hlx : l.stackTraces = false) (hH : ∀ q : Nat, q < B → s.heap[q]? = H0[q]?) (hne : ∀ x ∈ c.exceptionTable.toList, False) (hH0 : H0.size = B) {Q : State → Prop} : ∀ (M : gMem) (kc : Nat) (kn : Nat) (x2 : Option Nat) (x3 : Option Nat) (x4 : Int32) (x5 : Int32) (x6 : Int32) (x7 : Int32) (x23 : Int32) (x26 : Int32) (z : (gMem × Nat × Nat × Int32) ⊕ ((Nat ⊕ Int32) × gMem)), b_L_law_1576 Z M kc kn x2 x3 x4 x5 x6 x7 x23 x26 = some z → (Sum.elim (fun (q : gMem × Nat × Nat × Int32) => gGo p l e rL_law s m args below meth c D cy B H0 34 q.2.1 q.2.2.1 Q 59 [(0, vR (some (Z 400))), (2, vR x2), (3, vR x3), (4, vI x4), (5, vI x5), (6, vI x6), (7, vI q.2.2.2)] [] q.1) (fun (r : (Nat ⊕ Int32) × gMem) => Q = gMX below D cy B H0 args s 600086 7301442 (gzI r.1) r.2)) z → gGo p l e rL_law s m args below meth c D cy B H0 34 kc kn Q 1576 [(0, vR (some (Z 400))), (2, vR x2), (3, vR x3), (4, vI x4), (5, vI x5), (6, vI x6), (7, vI x7), (23, vI x23), (26, vI x26)] [] M := by
  intro M kc kn x2 x3 x4 x5 x6 x7 x23 x26 z hf hK
  unfold b_L_law_1576 at hf
  have X := gX_w X2
  refine g_iload X dL_law_1576 rfl ?_
  refine g_iload X dL_law_1578 rfl ?_
  refine g_iload X dL_law_1580 rfl ?_
  refine g_imul X dL_law_1582 ?_
  refine g_icmp_le (tgt := 1588) X dL_law_1583 (by decide) (fun hc => ?_) (fun hc => ?_)
  · have hf := ife_t hc hf
    refine g_iinc (v := (1 : Int32)) (lv' := [(7, vI (x7 + (1 : Int32))), (0, vR (some (Z 400))), (2, vR x2), (3, vR x3), (4, vI x4), (5, vI x5), (6, vI x6), (23, vI x23), (26, vI x26)]) X dL_law_1588 rfl (by decide) (by decide) rfl ?_
    refine g_goto (tgt := 59) X dL_law_1591 (by decide) ?_
    cases hf
    refine g_sub (lvsub_of _ _ [1, 2, 3, 4, 5, 6, 0] rfl) ?_
    exact hK
  · have hf := ife_f hc hf
    obtain ⟨w2, hw2, hz2⟩ := oI_e hf
    subst hz2
    have hf := hw2
    refine g_sub (lvsub_of _ _ [] rfl) ?_
    exact t_L_law_1586 X2 hr hlx hH hne hH0 _ _ _ _ hf hK
set_option maxHeartbeats 4000000 in
set_option maxRecDepth 100000 in
theorem t_L_law_1552 (X2 : gX p s m args meth c D cy B (gSt2 Z B H0) RL cL_law wsL_law 34) (hr : meth.sig.returnType = (some .boolean)) (hlx : l.stackTraces = false) (hH : ∀ q : Nat, q < B → s.heap[q]? = H0[q]?) (hne : ∀ x ∈ c.exceptionTable.toList, False) (hH0 : H0.size = B) {Q : State → Prop} : ∀ (M : gMem) (kc : Nat) (kn : Nat) (x2 : Option Nat) (x3 : Option Nat) (x4 : Int32) (x5 : Int32) (x6 : Int32) (x7 : Int32) (x21 : Int32) (x23 : Int32) (x26 : Int32) (x28 : Int32) (s0 : Int32) (s1 : Int32) (z : (gMem × Nat × Nat × Int32 × Int32) ⊕ ((gMem × Nat × Nat × Int32) ⊕ ((Nat ⊕ Int32) × gMem))), b_L_law_1552 Z M kc kn x2 x3 x4 x5 x6 x7 x21 x23 x26 x28 s0 s1 = some z → (Sum.elim (fun (q : gMem × Nat × Nat × Int32 × Int32) => gGo p l e rL_law s m args below meth c D cy B H0 34 q.2.1 q.2.2.1 Q 1509 [(0, vR (some (Z 400))), (2, vR x2), (3, vR x3), (4, vI x4), (5, vI x5), (6, vI x6), (7, vI x7), (21, vI x21), (23, vI x23), (26, vI x26), (27, vI q.2.2.2.1), (28, vI q.2.2.2.2)] [] q.1) (Sum.elim (fun (q : gMem × Nat × Nat × Int32) => gGo p l e rL_law s m args below meth c D cy B H0 34 q.2.1 q.2.2.1 Q 59 [(0, vR (some (Z 400))), (2, vR x2), (3, vR x3), (4, vI x4), (5, vI x5), (6, vI x6), (7, vI q.2.2.2)] [] q.1) (fun (r : (Nat ⊕ Int32) × gMem) => Q = gMX below D cy B H0 args s 600086 7301442 (gzI r.1) r.2))) z → gGo p l e rL_law s m args below meth c D cy B H0 34 kc kn Q 1552 [(0, vR (some (Z 400))), (2, vR x2), (3, vR x3), (4, vI x4), (5, vI x5), (6, vI x6), (7, vI x7), (21, vI x21), (23, vI x23), (26, vI x26), (28, vI x28)] [vI s1, vI s0] M := by
  intro M kc kn x2 x3 x4 x5 x6 x7 x21 x23 x26 x28 s0 s1 z hf hK
  unfold b_L_law_1552 at hf
  have X := gX_w X2
  refine g_ior X dL_law_1552 ?_
  refine g_istore (lv' := [(27, vI (s0 ||| s1)), (0, vR (some (Z 400))), (2, vR x2), (3, vR x3), (4, vI x4), (5, vI x5), (6, vI x6), (7, vI x7), (21, vI x21), (23, vI x23), (26, vI x26), (28, vI x28)]) X dL_law_1553 (by decide) rfl ?_
  refine g_iinc (v := (1 : Int32)) (lv' := [(28, vI (x28 + (1 : Int32))), (27, vI (s0 ||| s1)), (0, vR (some (Z 400))), (2, vR x2), (3, vR x3), (4, vI x4), (5, vI x5), (6, vI x6), (7, vI x7), (21, vI x21), (23, vI x23), (26, vI x26)]) X dL_law_1555 rfl (by decide) (by decide) rfl ?_
  refine g_goto (tgt := 1509) X dL_law_1558 (by decide) ?_
  cases hf
  refine g_sub (lvsub_of _ _ [2, 3, 4, 5, 6, 7, 8, 9, 10, 11, 1, 0] rfl) ?_
  exact hK
set_option maxHeartbeats 4000000 in
set_option maxRecDepth 100000 in
theorem t_L_law_1547 (X2 : gX p s m args meth c D cy B (gSt2 Z B H0) RL cL_law wsL_law 34) (hr : meth.sig.returnType = (some .boolean)) (hlx : l.stackTraces = false) (hH : ∀ q : Nat, q < B → s.heap[q]? = H0[q]?) (hne : ∀ x ∈ c.exceptionTable.toList, False) (hH0 : H0.size = B) {Q : State → Prop} : ∀ (M : gMem) (kc : Nat) (kn : Nat) (x2 : Option Nat) (x3 : Option Nat) (x4 : Int32) (x5 : Int32) (x6 : Int32) (x7 : Int32) (x21 : Int32) (x23 : Int32) (x26 : Int32) (x28 : Int32) (s0 : Int32) (z : (gMem × Nat × Nat × Int32 × Int32) ⊕ ((gMem × Nat × Nat × Int32) ⊕ ((Nat ⊕ Int32) × gMem))), b_L_law_1547 Z M kc kn x2 x3 x4 x5 x6 x7 x21 x23 x26 x28 s0 = some z → (Sum.elim (fun (q : gMem × Nat × Nat × Int32 × Int32) => gGo p l e rL_law s m args below meth c D cy B H0 34 q.2.1 q.2.2.1 Q 1509 [(0, vR (some (Z 400))), (2, vR x2), (3, vR x3), (4, vI x4), (5, vI x5), (6, vI x6), (7, vI x7), (21, vI x21), (23, vI x23), (26, vI x26), (27, vI q.2.2.2.1), (28, vI q.2.2.2.2)] [] q.1) (Sum.elim (fun (q : gMem × Nat × Nat × Int32) => gGo p l e rL_law s m args below meth c D cy B H0 34 q.2.1 q.2.2.1 Q 59 [(0, vR (some (Z 400))), (2, vR x2), (3, vR x3), (4, vI x4), (5, vI x5), (6, vI x6), (7, vI q.2.2.2)] [] q.1) (fun (r : (Nat ⊕ Int32) × gMem) => Q = gMX below D cy B H0 args s 600086 7301442 (gzI r.1) r.2))) z → gGo p l e rL_law s m args below meth c D cy B H0 34 kc kn Q 1547 [(0, vR (some (Z 400))), (2, vR x2), (3, vR x3), (4, vI x4), (5, vI x5), (6, vI x6), (7, vI x7), (21, vI x21), (23, vI x23), (26, vI x26), (28, vI x28)] [vI s0] M := by
  intro M kc kn x2 x3 x4 x5 x6 x7 x21 x23 x26 x28 s0 z hf hK
  unfold b_L_law_1547 at hf
  have X := gX_w X2
  refine g_iconst (v := (1 : Int32)) X dL_law_1547 (by decide) ?_
  refine g_goto (tgt := 1552) X dL_law_1548 (by decide) ?_
  refine g_sub (lvsub_of _ _ [0, 1, 2, 3, 4, 5, 6, 7, 8, 9, 10] rfl) ?_
  exact t_L_law_1552 X2 hr hlx hH hne hH0 _ _ _ _ _ _ _ _ _ _ _ _ _ _ _ _ hf hK
set_option maxHeartbeats 4000000 in
set_option maxRecDepth 100000 in
theorem tb_L_law_1509 (X2 : gX p s m args meth c D cy B (gSt2 Z B H0) RL cL_law wsL_law 34) (hr : meth.sig.returnType = (some .boolean)) (hlx : l.stackTraces = false) (hH : ∀ q : Nat, q < B → s.heap[q]? = H0[q]?) (hne : ∀ x ∈ c.exceptionTable.toList, False) (hH0 : H0.size = B) {Q : State → Prop} : ∀ (M : gMem) (kc : Nat) (kn : Nat) (x2 : Option Nat) (x3 : Option Nat) (x4 : Int32) (x5 : Int32) (x6 : Int32) (x7 : Int32) (x21 : Int32) (x23 : Int32) (x26 : Int32) (x27 : Int32) (x28 : Int32) (z : (gMem × Nat × Nat × Int32 × Int32) ⊕ ((gMem × Nat × Nat × Int32) ⊕ ((Nat ⊕ Int32) × gMem))), bb_L_law_1509 Z M kc kn x2 x3 x4 x5 x6 x7 x21 x23 x26 x27 x28 = some z → (Sum.elim (fun (q : gMem × Nat × Nat × Int32 × Int32) => gGo p l e rL_law s m args below meth c D cy B H0 34 q.2.1 q.2.2.1 Q 1509 [(0, vR (some (Z 400))), (2, vR x2), (3, vR x3), (4, vI x4), (5, vI x5), (6, vI x6), (7, vI x7), (21, vI x21), (23, vI x23), (26, vI x26), (27, vI q.2.2.2.1), (28, vI q.2.2.2.2)] [] q.1) (Sum.elim (fun (q : gMem × Nat × Nat × Int32) => gGo p l e rL_law s m args below meth c D cy B H0 34 q.2.1 q.2.2.1 Q 59 [(0, vR (some (Z 400))), (2, vR x2), (3, vR x3), (4, vI x4), (5, vI x5), (6, vI x6), (7, vI q.2.2.2)] [] q.1) (fun (r : (Nat ⊕ Int32) × gMem) => Q = gMX below D cy B H0 args s 600086 7301442 (gzI r.1) r.2))) z → gGo p l e rL_law s m args below meth c D cy B H0 34 kc kn Q 1509 [(0, vR (some (Z 400))), (2, vR x2), (3, vR x3), (4, vI x4), (5, vI x5), (6, vI x6), (7, vI x7), (21, vI x21), (23, vI x23), (26, vI x26), (27, vI x27), (28, vI x28)] [] M := by
  intro M kc kn x2 x3 x4 x5 x6 x7 x21 x23 x26 x27 x28 z hf hK
  unfold bb_L_law_1509 at hf
  have X := gX_w X2
  refine g_iload X dL_law_1509 rfl ?_
  refine g_aload_n X dL_law_1511 rfl rfl ?_
  obtain ⟨a3, ha3, hf⟩ := dr_e hf
  obtain ⟨hT4, hf⟩ := ck_e hf
  refine g_get (ci := 10) (v := vI (mI M a3 5)) 5 X cdX12 i_L_law_X12 (by decide) k_L_law_f155 rfl dL_law_1512 ha3 hT4 rfl ?_
  refine g_icmp_ge (tgt := 1561) X dL_law_1515 (by decide) (fun hc => ?_) (fun hc => ?_)
  · have hf := ife_t hc hf
    refine g_iload X dL_law_1561 rfl ?_
    refine g_if_ne (tgt := 1576) X dL_law_1563 (by decide) (fun hc => ?_) (fun hc => ?_)
    · have hf := ife_f hc hf
      obtain ⟨w5, hw5, hz5⟩ := oI_e hf
      subst hz5
      have hf := hw5
      refine g_sub (lvsub_of _ _ [0, 1, 2, 3, 4, 5, 6, 8, 9] rfl) ?_
      exact t_L_law_1576 X2 hr hlx hH hne hH0 _ _ _ _ _ _ _ _ _ _ _ _ hf hK
    · have hf := ife_t hc hf
      refine g_iload X dL_law_1566 rfl ?_
      refine g_if_ne (tgt := 1576) X dL_law_1568 (by decide) (fun hc => ?_) (fun hc => ?_)
      · have hf := ife_f hc hf
        obtain ⟨w6, hw6, hz6⟩ := oI_e hf
        subst hz6
        have hf := hw6
        refine g_sub (lvsub_of _ _ [0, 1, 2, 3, 4, 5, 6, 8, 9] rfl) ?_
        exact t_L_law_1576 X2 hr hlx hH hne hH0 _ _ _ _ _ _ _ _ _ _ _ _ hf hK
      · have hf := ife_t hc hf
        refine g_iload X dL_law_1571 rfl ?_
        refine g_if_ne (tgt := 1586) X dL_law_1573 (by decide) (fun hc => ?_) (fun hc => ?_)
        · have hf := ife_f hc hf
          obtain ⟨w7, hw7, hz7⟩ := oI_e hf
          subst hz7
          have hf := hw7
          obtain ⟨w8, hw8, hz8⟩ := oI_e hf
          subst hz8
          have hf := hw8
          refine g_sub (lvsub_of _ _ [] rfl) ?_
          exact t_L_law_1586 X2 hr hlx hH hne hH0 _ _ _ _ hf hK
        · have hf := ife_t hc hf
          obtain ⟨w9, hw9, hz9⟩ := oI_e hf
          subst hz9
          have hf := hw9
          refine g_sub (lvsub_of _ _ [0, 1, 2, 3, 4, 5, 6, 8, 9] rfl) ?_
          exact t_L_law_1576 X2 hr hlx hH hne hH0 _ _ _ _ _ _ _ _ _ _ _ _ hf hK
  · have hf := ife_f hc hf
    refine g_iload X dL_law_1518 rfl ?_
    refine g_aload_n X dL_law_1520 rfl rfl ?_
    refine g_get (ci := 10) (v := vR (mR M a3 4)) 4 X cdX12 i_L_law_X12 (by decide) k_L_law_f158 rfl dL_law_1521 ha3 hT4 rfl ?_
    refine g_iload X dL_law_1524 rfl ?_
    obtain ⟨a10, ha10, hf⟩ := dr_e hf
    obtain ⟨hT11, hf⟩ := ck_e hf
    obtain ⟨hg12, hf⟩ := ck_e hf
    refine g_aaldA X dL_law_1526 ha10 hT11 hg12 ?_
    refine g_iconst (v := (2 : Int32)) X dL_law_1527 (by decide) ?_
    obtain ⟨a13, ha13, hf⟩ := dr_e hf
    obtain ⟨hT14, hf⟩ := ck_e hf
    obtain ⟨hg15, hf⟩ := ck_e hf
    refine g_iald X dL_law_1528 ha13 hT14 hg15 ?_
    refine g_iconst (v := (3 : Int32)) X dL_law_1529 (by decide) ?_
    refine g_icmp_eq (tgt := 1547) X dL_law_1530 (by decide) (fun hc => ?_) (fun hc => ?_)
    · have hf := ife_t hc hf
      refine g_sub (lvsub_of _ _ [0, 1, 2, 3, 4, 5, 6, 7, 8, 9, 11] rfl) ?_
      exact t_L_law_1547 X2 hr hlx hH hne hH0 _ _ _ _ _ _ _ _ _ _ _ _ _ _ _ hf hK
    · have hf := ife_f hc hf
      refine g_aload_n X dL_law_1533 rfl rfl ?_
      refine g_get (ci := 10) (v := vR (mR M a3 4)) 4 X cdX12 i_L_law_X12 (by decide) k_L_law_f158 rfl dL_law_1534 ha3 hT4 rfl ?_
      refine g_iload X dL_law_1537 rfl ?_
      obtain ⟨hg16, hf⟩ := ck_e hf
      refine g_aaldA X dL_law_1539 ha10 hT11 hg16 ?_
      refine g_iconst (v := (2 : Int32)) X dL_law_1540 (by decide) ?_
      obtain ⟨hg17, hf⟩ := ck_e hf
      refine g_iald X dL_law_1541 ha13 hT14 hg17 ?_
      refine g_bipush (v := (7 : Int32)) X dL_law_1542 (by decide) ?_
      refine g_icmp_ne (tgt := 1551) X dL_law_1544 (by decide) (fun hc => ?_) (fun hc => ?_)
      · have hf := ife_f hc hf
        refine g_iconst (v := (0 : Int32)) X dL_law_1551 (by decide) ?_
        refine g_sub (lvsub_of _ _ [0, 1, 2, 3, 4, 5, 6, 7, 8, 9, 11] rfl) ?_
        exact t_L_law_1552 X2 hr hlx hH hne hH0 _ _ _ _ _ _ _ _ _ _ _ _ _ _ _ _ hf hK
      · have hf := ife_t hc hf
        refine g_sub (lvsub_of _ _ [0, 1, 2, 3, 4, 5, 6, 7, 8, 9, 11] rfl) ?_
        exact t_L_law_1547 X2 hr hlx hH hne hH0 _ _ _ _ _ _ _ _ _ _ _ _ _ _ _ hf hK
set_option maxHeartbeats 4000000 in
set_option maxRecDepth 100000 in
theorem tl_L_law_1509 (X2 : gX p s m args meth c D cy B (gSt2 Z B H0) RL cL_law wsL_law 34) (hr : meth.sig.returnType = (some .boolean)) (hlx : l.stackTraces = false) (hH : ∀ q : Nat, q < B → s.heap[q]? = H0[q]?) (hne : ∀ x ∈ c.exceptionTable.toList, False) (hH0 : H0.size = B) {Q : State → Prop} : ∀ (M : gMem) (kc : Nat) (kn : Nat) (x2 : Option Nat) (x3 : Option Nat) (x4 : Int32) (x5 : Int32) (x6 : Int32) (x7 : Int32) (x21 : Int32) (x23 : Int32) (x26 : Int32) (x27 : Int32) (x28 : Int32) (z : (gMem × Nat × Nat × Int32) ⊕ ((Nat ⊕ Int32) × gMem)), lp_L_law_1509 Z M kc kn x2 x3 x4 x5 x6 x7 x21 x23 x26 x27 x28 = some z → (Sum.elim (fun (q : gMem × Nat × Nat × Int32) => gGo p l e rL_law s m args below meth c D cy B H0 34 q.2.1 q.2.2.1 Q 59 [(0, vR (some (Z 400))), (2, vR x2), (3, vR x3), (4, vI x4), (5, vI x5), (6, vI x6), (7, vI q.2.2.2)] [] q.1) (fun (r : (Nat ⊕ Int32) × gMem) => Q = gMX below D cy B H0 args s 600086 7301442 (gzI r.1) r.2)) z → gGo p l e rL_law s m args below meth c D cy B H0 34 kc kn Q 1509 [(0, vR (some (Z 400))), (2, vR x2), (3, vR x3), (4, vI x4), (5, vI x5), (6, vI x6), (7, vI x7), (21, vI x21), (23, vI x23), (26, vI x26), (27, vI x27), (28, vI x28)] [] M := by
  intro M kc kn x2 x3 x4 x5 x6 x7 x21 x23 x26 x27 x28 z hf hK
  refine lp_ind (P := (fun (q : gMem × Nat × Nat × Int32 × Int32) (z : (gMem × Nat × Nat × Int32) ⊕ ((Nat ⊕ Int32) × gMem)) => (Sum.elim (fun (q : gMem × Nat × Nat × Int32) => gGo p l e rL_law s m args below meth c D cy B H0 34 q.2.1 q.2.2.1 Q 59 [(0, vR (some (Z 400))), (2, vR x2), (3, vR x3), (4, vI x4), (5, vI x5), (6, vI x6), (7, vI q.2.2.2)] [] q.1) (fun (r : (Nat ⊕ Int32) × gMem) => Q = gMX below D cy B H0 args s 600086 7301442 (gzI r.1) r.2)) z → gGo p l e rL_law s m args below meth c D cy B H0 34 q.2.1 q.2.2.1 Q 1509 [(0, vR (some (Z 400))), (2, vR x2), (3, vR x3), (4, vI x4), (5, vI x5), (6, vI x6), (7, vI x7), (21, vI x21), (23, vI x23), (26, vI x26), (27, vI q.2.2.2.1), (28, vI q.2.2.2.2)] [] q.1)) (fun q z hq => ?_) _ _ hf hK
  intro hK
  obtain ⟨w, hw, hm⟩ := hq
  refine tb_L_law_1509 X2 hr hlx hH hne hH0 _ _ _ _ _ _ _ _ _ _ _ _ _ _ w hw ?_
  cases w with
  | inl a => exact hm hK
  | inr b => cases hm; exact hK
set_option maxHeartbeats 4000000 in
set_option maxRecDepth 100000 in
theorem tb_L_law_1464 (X2 : gX p s m args meth c D cy B (gSt2 Z B H0) RL cL_law wsL_law 34) (hr : meth.sig.returnType = (some .boolean)) (hlx : l.stackTraces = false) (hH : ∀ q : Nat, q < B → s.heap[q]? = H0[q]?) (hne : ∀ x ∈ c.exceptionTable.toList, False) (hH0 : H0.size = B) {Q : State → Prop} : ∀ (M : gMem) (kc : Nat) (kn : Nat) (x2 : Option Nat) (x3 : Option Nat) (x4 : Int32) (x5 : Int32) (x6 : Int32) (x7 : Int32) (x10 : Option Nat) (x12 : Option Nat) (x21 : Int32) (x23 : Int32) (x26 : Int32) (x27 : Int32) (x30 : Int32) (z : (gMem × Nat × Nat × Int32) ⊕ ((gMem × Nat × Nat × Int32 × Int32) ⊕ ((gMem × Nat × Nat × Int32) ⊕ ((Nat ⊕ Int32) × gMem)))), bb_L_law_1464 Z M kc kn x2 x3 x4 x5 x6 x7 x10 x12 x21 x23 x26 x27 x30 = some z → (Sum.elim (fun (q : gMem × Nat × Nat × Int32) => gGo p l e rL_law s m args below meth c D cy B H0 34 q.2.1 q.2.2.1 Q 1464 [(0, vR (some (Z 400))), (2, vR x2), (3, vR x3), (4, vI x4), (5, vI x5), (6, vI x6), (7, vI x7), (10, vR x10), (12, vR x12), (21, vI x21), (23, vI x23), (26, vI x26), (27, vI x27), (30, vI q.2.2.2)] [] q.1) (Sum.elim (fun (q : gMem × Nat × Nat × Int32 × Int32) => gGo p l e rL_law s m args below meth c D cy B H0 34 q.2.1 q.2.2.1 Q 1278 [(0, vR (some (Z 400))), (2, vR x2), (3, vR x3), (4, vI x4), (5, vI x5), (6, vI x6), (7, vI x7), (10, vR x10), (12, vR x12), (21, vI x21), (23, vI x23), (26, vI q.2.2.2.1), (27, vI q.2.2.2.2)] [] q.1) (Sum.elim (fun (q : gMem × Nat × Nat × Int32) => gGo p l e rL_law s m args below meth c D cy B H0 34 q.2.1 q.2.2.1 Q 59 [(0, vR (some (Z 400))), (2, vR x2), (3, vR x3), (4, vI x4), (5, vI x5), (6, vI x6), (7, vI q.2.2.2)] [] q.1) (fun (r : (Nat ⊕ Int32) × gMem) => Q = gMX below D cy B H0 args s 600086 7301442 (gzI r.1) r.2)))) z → gGo p l e rL_law s m args below meth c D cy B H0 34 kc kn Q 1464 [(0, vR (some (Z 400))), (2, vR x2), (3, vR x3), (4, vI x4), (5, vI x5), (6, vI x6), (7, vI x7), (10, vR x10), (12, vR x12), (21, vI x21), (23, vI x23), (26, vI x26), (27, vI x27), (30, vI x30)] [] M := by
  intro M kc kn x2 x3 x4 x5 x6 x7 x10 x12 x21 x23 x26 x27 x30 z hf hK
  unfold bb_L_law_1464 at hf
  have X := gX_w X2
  refine g_iload X dL_law_1464 rfl ?_
  refine g_iconst (v := (4 : Int32)) X dL_law_1466 (by decide) ?_
  refine g_icmp_ge (tgt := 1497) X dL_law_1467 (by decide) (fun hc => ?_) (fun hc => ?_)
  · have hf := ife_t hc hf
    refine g_iinc (v := (1 : Int32)) (lv' := [(27, vI (x27 + (1 : Int32))), (0, vR (some (Z 400))), (2, vR x2), (3, vR x3), (4, vI x4), (5, vI x5), (6, vI x6), (7, vI x7), (10, vR x10), (12, vR x12), (21, vI x21), (23, vI x23), (26, vI x26), (30, vI x30)]) X dL_law_1497 rfl (by decide) (by decide) rfl ?_
    refine g_goto (tgt := 1278) X dL_law_1500 (by decide) ?_
    obtain ⟨w18, hw18, hz18⟩ := oI_e hf
    subst hz18
    have hf := hw18
    cases hf
    refine g_sub (lvsub_of _ _ [1, 2, 3, 4, 5, 6, 7, 8, 9, 10, 11, 12, 0] rfl) ?_
    exact hK
  · have hf := ife_f hc hf
    refine g_aload_n X dL_law_1470 rfl rfl ?_
    refine g_iload X dL_law_1471 rfl ?_
    refine g_iload X dL_law_1473 rfl ?_
    obtain ⟨a20, ha20, hf⟩ := dr_e hf
    obtain ⟨hT21, hf⟩ := ck_e hf
    obtain ⟨hg22, hf⟩ := ck_e hf
    rcases bx_e hf with ⟨e19, M19, hq19, hf⟩ | ⟨r19, M19, hq19, hf⟩
    · obtain ⟨w23, hw23, hz23⟩ := oI_e hf
      subst hz23
      have hf := hw23
      obtain ⟨w24, hw24, hz24⟩ := oI_e hf
      subst hz24
      have hf := hw24
      obtain ⟨w25, hw25, hz25⟩ := oI_e hf
      subst hz25
      have hf := hw25
      cases hf
      refine g_eqQ hK ?_
      exact g_callTV (ci := 9) (b := a20) (As := [vI x27, vI x30]) (st := []) (M1 := M19) X2 hne (m_X11_pact l hlx hH0 hq19) (cwV 2 X.2.2.1 gL_law_X11_pact rfl rfl rfl (by decide +kernel) ⟨Nat.le_of_ble_eq_true rfl, Nat.le_of_ble_eq_true rfl⟩) rfl rfl ha20 hT21 (by decide) rfl (Nat.le_of_ble_eq_true rfl) dL_law_1475 ⟨hg22.1, hg22.2⟩ hg22.1 hg22.2
    refine g_callXV (ci := 9) (b := a20) (As := [vI x27, vI x30]) (st := []) (v := some (vI r19)) (M1 := M19) X2 (m_X11_pact l hlx hH0 hq19) (cwV 2 X.2.2.1 gL_law_X11_pact rfl rfl rfl (by decide +kernel) ⟨Nat.le_of_ble_eq_true rfl, Nat.le_of_ble_eq_true rfl⟩) rfl rfl ha20 hT21 (by decide) rfl (Nat.le_of_ble_eq_true rfl) dL_law_1475 ⟨hg22.1, hg22.2⟩ ?_
    refine g_aload X dL_law_1478 rfl ?_
    refine g_iload X dL_law_1480 rfl ?_
    obtain ⟨a26, ha26, hf⟩ := dr_e hf
    obtain ⟨hT27, hf⟩ := ck_e hf
    obtain ⟨hg28, hf⟩ := ck_e hf
    refine g_aaldA X dL_law_1482 ha26 hT27 hg28 ?_
    refine g_iload X dL_law_1483 rfl ?_
    obtain ⟨a29, ha29, hf⟩ := dr_e hf
    obtain ⟨hT30, hf⟩ := ck_e hf
    obtain ⟨hg31, hf⟩ := ck_e hf
    refine g_iald X dL_law_1485 ha29 hT30 hg31 ?_
    refine g_icmp_eq (tgt := 1491) X dL_law_1486 (by decide) (fun hc => ?_) (fun hc => ?_)
    · have hf := ife_t hc hf
      refine g_iinc (v := (1 : Int32)) (lv' := [(30, vI (x30 + (1 : Int32))), (0, vR (some (Z 400))), (2, vR x2), (3, vR x3), (4, vI x4), (5, vI x5), (6, vI x6), (7, vI x7), (10, vR x10), (12, vR x12), (21, vI x21), (23, vI x23), (26, vI x26), (27, vI x27)]) X dL_law_1491 rfl (by decide) (by decide) rfl ?_
      refine g_goto (tgt := 1464) X dL_law_1494 (by decide) ?_
      cases hf
      refine g_sub (lvsub_of _ _ [1, 2, 3, 4, 5, 6, 7, 8, 9, 10, 11, 12, 13, 0] rfl) ?_
      exact hK
    · have hf := ife_f hc hf
      refine g_iconst (v := (0 : Int32)) X dL_law_1489 (by decide) ?_
      obtain ⟨hg32, hf⟩ := ck_e hf
      obtain ⟨w33, hw33, hz33⟩ := oI_e hf
      subst hz33
      have hf := hw33
      obtain ⟨w34, hw34, hz34⟩ := oI_e hf
      subst hz34
      have hf := hw34
      obtain ⟨w35, hw35, hz35⟩ := oI_e hf
      subst hz35
      have hf := hw35
      cases hf
      refine g_eqQ hK ?_
      refine g_wide (k' := 600086) (n' := 7301442) hg32.1 hg32.2 ?_
      refine g_xret ?_
      exact g_zret X hr (gnb (Or.inl rfl)) dL_law_1490
set_option maxHeartbeats 4000000 in
set_option maxRecDepth 100000 in
theorem tl_L_law_1464 (X2 : gX p s m args meth c D cy B (gSt2 Z B H0) RL cL_law wsL_law 34) (hr : meth.sig.returnType = (some .boolean)) (hlx : l.stackTraces = false) (hH : ∀ q : Nat, q < B → s.heap[q]? = H0[q]?) (hne : ∀ x ∈ c.exceptionTable.toList, False) (hH0 : H0.size = B) {Q : State → Prop} : ∀ (M : gMem) (kc : Nat) (kn : Nat) (x2 : Option Nat) (x3 : Option Nat) (x4 : Int32) (x5 : Int32) (x6 : Int32) (x7 : Int32) (x10 : Option Nat) (x12 : Option Nat) (x21 : Int32) (x23 : Int32) (x26 : Int32) (x27 : Int32) (x30 : Int32) (z : (gMem × Nat × Nat × Int32 × Int32) ⊕ ((gMem × Nat × Nat × Int32) ⊕ ((Nat ⊕ Int32) × gMem))), lp_L_law_1464 Z M kc kn x2 x3 x4 x5 x6 x7 x10 x12 x21 x23 x26 x27 x30 = some z → (Sum.elim (fun (q : gMem × Nat × Nat × Int32 × Int32) => gGo p l e rL_law s m args below meth c D cy B H0 34 q.2.1 q.2.2.1 Q 1278 [(0, vR (some (Z 400))), (2, vR x2), (3, vR x3), (4, vI x4), (5, vI x5), (6, vI x6), (7, vI x7), (10, vR x10), (12, vR x12), (21, vI x21), (23, vI x23), (26, vI q.2.2.2.1), (27, vI q.2.2.2.2)] [] q.1) (Sum.elim (fun (q : gMem × Nat × Nat × Int32) => gGo p l e rL_law s m args below meth c D cy B H0 34 q.2.1 q.2.2.1 Q 59 [(0, vR (some (Z 400))), (2, vR x2), (3, vR x3), (4, vI x4), (5, vI x5), (6, vI x6), (7, vI q.2.2.2)] [] q.1) (fun (r : (Nat ⊕ Int32) × gMem) => Q = gMX below D cy B H0 args s 600086 7301442 (gzI r.1) r.2))) z → gGo p l e rL_law s m args below meth c D cy B H0 34 kc kn Q 1464 [(0, vR (some (Z 400))), (2, vR x2), (3, vR x3), (4, vI x4), (5, vI x5), (6, vI x6), (7, vI x7), (10, vR x10), (12, vR x12), (21, vI x21), (23, vI x23), (26, vI x26), (27, vI x27), (30, vI x30)] [] M := by
  intro M kc kn x2 x3 x4 x5 x6 x7 x10 x12 x21 x23 x26 x27 x30 z hf hK
  refine lp_ind (P := (fun (q : gMem × Nat × Nat × Int32) (z : (gMem × Nat × Nat × Int32 × Int32) ⊕ ((gMem × Nat × Nat × Int32) ⊕ ((Nat ⊕ Int32) × gMem))) => (Sum.elim (fun (q : gMem × Nat × Nat × Int32 × Int32) => gGo p l e rL_law s m args below meth c D cy B H0 34 q.2.1 q.2.2.1 Q 1278 [(0, vR (some (Z 400))), (2, vR x2), (3, vR x3), (4, vI x4), (5, vI x5), (6, vI x6), (7, vI x7), (10, vR x10), (12, vR x12), (21, vI x21), (23, vI x23), (26, vI q.2.2.2.1), (27, vI q.2.2.2.2)] [] q.1) (Sum.elim (fun (q : gMem × Nat × Nat × Int32) => gGo p l e rL_law s m args below meth c D cy B H0 34 q.2.1 q.2.2.1 Q 59 [(0, vR (some (Z 400))), (2, vR x2), (3, vR x3), (4, vI x4), (5, vI x5), (6, vI x6), (7, vI q.2.2.2)] [] q.1) (fun (r : (Nat ⊕ Int32) × gMem) => Q = gMX below D cy B H0 args s 600086 7301442 (gzI r.1) r.2))) z → gGo p l e rL_law s m args below meth c D cy B H0 34 q.2.1 q.2.2.1 Q 1464 [(0, vR (some (Z 400))), (2, vR x2), (3, vR x3), (4, vI x4), (5, vI x5), (6, vI x6), (7, vI x7), (10, vR x10), (12, vR x12), (21, vI x21), (23, vI x23), (26, vI x26), (27, vI x27), (30, vI q.2.2.2)] [] q.1)) (fun q z hq => ?_) _ _ hf hK
  intro hK
  obtain ⟨w, hw, hm⟩ := hq
  refine tb_L_law_1464 X2 hr hlx hH hne hH0 _ _ _ _ _ _ _ _ _ _ _ _ _ _ _ _ w hw ?_
  cases w with
  | inl a => exact hm hK
  | inr b => cases hm; exact hK
set_option maxHeartbeats 4000000 in
set_option maxRecDepth 100000 in
theorem t_L_law_1461 (X2 : gX p s m args meth c D cy B (gSt2 Z B H0) RL cL_law wsL_law 34) (hr : meth.sig.returnType = (some .boolean)) (hlx : l.stackTraces = false) (hH : ∀ q : Nat, q < B → s.heap[q]? = H0[q]?) (hne : ∀ x ∈ c.exceptionTable.toList, False) (hH0 : H0.size = B) {Q : State → Prop} : ∀ (M : gMem) (kc : Nat) (kn : Nat) (x2 : Option Nat) (x3 : Option Nat) (x4 : Int32) (x5 : Int32) (x6 : Int32) (x7 : Int32) (x10 : Option Nat) (x12 : Option Nat) (x21 : Int32) (x23 : Int32) (x26 : Int32) (x27 : Int32) (z : (gMem × Nat × Nat × Int32 × Int32) ⊕ ((gMem × Nat × Nat × Int32) ⊕ ((Nat ⊕ Int32) × gMem))), b_L_law_1461 Z M kc kn x2 x3 x4 x5 x6 x7 x10 x12 x21 x23 x26 x27 = some z → (Sum.elim (fun (q : gMem × Nat × Nat × Int32 × Int32) => gGo p l e rL_law s m args below meth c D cy B H0 34 q.2.1 q.2.2.1 Q 1278 [(0, vR (some (Z 400))), (2, vR x2), (3, vR x3), (4, vI x4), (5, vI x5), (6, vI x6), (7, vI x7), (10, vR x10), (12, vR x12), (21, vI x21), (23, vI x23), (26, vI q.2.2.2.1), (27, vI q.2.2.2.2)] [] q.1) (Sum.elim (fun (q : gMem × Nat × Nat × Int32) => gGo p l e rL_law s m args below meth c D cy B H0 34 q.2.1 q.2.2.1 Q 59 [(0, vR (some (Z 400))), (2, vR x2), (3, vR x3), (4, vI x4), (5, vI x5), (6, vI x6), (7, vI q.2.2.2)] [] q.1) (fun (r : (Nat ⊕ Int32) × gMem) => Q = gMX below D cy B H0 args s 600086 7301442 (gzI r.1) r.2))) z → gGo p l e rL_law s m args below meth c D cy B H0 34 kc kn Q 1461 [(0, vR (some (Z 400))), (2, vR x2), (3, vR x3), (4, vI x4), (5, vI x5), (6, vI x6), (7, vI x7), (10, vR x10), (12, vR x12), (21, vI x21), (23, vI x23), (26, vI x26), (27, vI x27)] [] M := by
  intro M kc kn x2 x3 x4 x5 x6 x7 x10 x12 x21 x23 x26 x27 z hf hK
  unfold b_L_law_1461 at hf
  have X := gX_w X2
  refine g_iconst (v := (0 : Int32)) X dL_law_1461 (by decide) ?_
  refine g_istore (lv' := [(30, vI (0 : Int32)), (0, vR (some (Z 400))), (2, vR x2), (3, vR x3), (4, vI x4), (5, vI x5), (6, vI x6), (7, vI x7), (10, vR x10), (12, vR x12), (21, vI x21), (23, vI x23), (26, vI x26), (27, vI x27)]) X dL_law_1462 (by decide) rfl ?_
  refine g_sub (lvsub_of _ _ [1, 2, 3, 4, 5, 6, 7, 8, 9, 10, 11, 12, 13, 0] rfl) ?_
  exact tl_L_law_1464 X2 hr hlx hH hne hH0 _ _ _ _ _ _ _ _ _ _ _ _ _ _ _ _ _ hf hK
set_option maxHeartbeats 4000000 in
set_option maxRecDepth 100000 in
theorem t_L_law_1459 (X2 : gX p s m args meth c D cy B (gSt2 Z B H0) RL cL_law wsL_law 34) (hr : meth.sig.returnType = (some .boolean)) (hlx : l.stackTraces = false) (hH : ∀ q : Nat, q < B → s.heap[q]? = H0[q]?) (hne : ∀ x ∈ c.exceptionTable.toList, False) (hH0 : H0.size = B) {Q : State → Prop} : ∀ (M : gMem) (kc : Nat) (kn : Nat) (z : (Nat ⊕ Int32) × gMem), b_L_law_1459 Z M kc kn = some z → (fun (r : (Nat ⊕ Int32) × gMem) => Q = gMX below D cy B H0 args s 600086 7301442 (gzI r.1) r.2) z → gGo p l e rL_law s m args below meth c D cy B H0 34 kc kn Q 1459 [] [] M := by
  intro M kc kn z hf hK
  unfold b_L_law_1459 at hf
  have X := gX_w X2
  refine g_iconst (v := (0 : Int32)) X dL_law_1459 (by decide) ?_
  obtain ⟨hg36, hf⟩ := ck_e hf
  cases hf
  refine g_eqQ hK ?_
  refine g_wide (k' := 600086) (n' := 7301442) hg36.1 hg36.2 ?_
  refine g_xret ?_
  exact g_zret X hr (gnb (Or.inl rfl)) dL_law_1460
set_option maxHeartbeats 4000000 in
set_option maxRecDepth 100000 in
theorem t_L_law_1412 (X2 : gX p s m args meth c D cy B (gSt2 Z B H0) RL cL_law wsL_law 34) (hr : meth.sig.returnType = (some .boolean)) (hlx : l.stackTraces = false) (hH : ∀ q : Nat, q < B → s.heap[q]? = H0[q]?) (hne : ∀ x ∈ c.exceptionTable.toList, False) (hH0 : H0.size = B) {Q : State → Prop} : ∀ (M : gMem) (kc : Nat) (kn : Nat) (x2 : Option Nat) (x3 : Option Nat) (x4 : Int32) (x5 : Int32) (x6 : Int32) (x7 : Int32) (x10 : Option Nat) (x12 : Option Nat) (x21 : Int32) (x23 : Int32) (x26 : Int32) (x27 : Int32) (x29 : Int32) (s0 : Int32) (s1 : Int32) (s2 : Int32) (z : (gMem × Nat × Nat × Int32 × Int32) ⊕ ((gMem × Nat × Nat × Int32) ⊕ ((Nat ⊕ Int32) × gMem))), b_L_law_1412 Z M kc kn x2 x3 x4 x5 x6 x7 x10 x12 x21 x23 x26 x27 x29 s0 s1 s2 = some z → (Sum.elim (fun (q : gMem × Nat × Nat × Int32 × Int32) => gGo p l e rL_law s m args below meth c D cy B H0 34 q.2.1 q.2.2.1 Q 1278 [(0, vR (some (Z 400))), (2, vR x2), (3, vR x3), (4, vI x4), (5, vI x5), (6, vI x6), (7, vI x7), (10, vR x10), (12, vR x12), (21, vI x21), (23, vI x23), (26, vI q.2.2.2.1), (27, vI q.2.2.2.2)] [] q.1) (Sum.elim (fun (q : gMem × Nat × Nat × Int32) => gGo p l e rL_law s m args below meth c D cy B H0 34 q.2.1 q.2.2.1 Q 59 [(0, vR (some (Z 400))), (2, vR x2), (3, vR x3), (4, vI x4), (5, vI x5), (6, vI x6), (7, vI q.2.2.2)] [] q.1) (fun (r : (Nat ⊕ Int32) × gMem) => Q = gMX below D cy B H0 args s 600086 7301442 (gzI r.1) r.2))) z → gGo p l e rL_law s m args below meth c D cy B H0 34 kc kn Q 1412 [(0, vR (some (Z 400))), (2, vR x2), (3, vR x3), (4, vI x4), (5, vI x5), (6, vI x6), (7, vI x7), (10, vR x10), (12, vR x12), (21, vI x21), (23, vI x23), (26, vI x26), (27, vI x27), (29, vI x29)] [vI s2, vI s1, vI s0] M := by
  intro M kc kn x2 x3 x4 x5 x6 x7 x10 x12 x21 x23 x26 x27 x29 s0 s1 s2 z hf hK
  unfold b_L_law_1412 at hf
  have X := gX_w X2
  refine g_iadd X dL_law_1412 ?_
  refine g_icmp_ne (tgt := 1459) X dL_law_1413 (by decide) (fun hc => ?_) (fun hc => ?_)
  · have hf := ife_f hc hf
    obtain ⟨w37, hw37, hz37⟩ := oI_e hf
    subst hz37
    have hf := hw37
    obtain ⟨w38, hw38, hz38⟩ := oI_e hf
    subst hz38
    have hf := hw38
    refine g_sub (lvsub_of _ _ [] rfl) ?_
    exact t_L_law_1459 X2 hr hlx hH hne hH0 _ _ _ _ hf hK
  · have hf := ife_t hc hf
    refine g_aload_n X dL_law_1416 rfl rfl ?_
    refine g_iload X dL_law_1417 rfl ?_
    refine g_iconst (v := (4 : Int32)) X dL_law_1419 (by decide) ?_
    obtain ⟨a40, ha40, hf⟩ := dr_e hf
    obtain ⟨hT41, hf⟩ := ck_e hf
    obtain ⟨hg42, hf⟩ := ck_e hf
    rcases bx_e hf with ⟨e39, M39, hq39, hf⟩ | ⟨r39, M39, hq39, hf⟩
    · obtain ⟨w43, hw43, hz43⟩ := oI_e hf
      subst hz43
      have hf := hw43
      obtain ⟨w44, hw44, hz44⟩ := oI_e hf
      subst hz44
      have hf := hw44
      cases hf
      refine g_eqQ hK ?_
      exact g_callTV (ci := 9) (b := a40) (As := [vI x27, vI (4 : Int32)]) (st := []) (M1 := M39) X2 hne (m_X11_pact l hlx hH0 hq39) (cwV 2 X.2.2.1 gL_law_X11_pact rfl rfl rfl (by decide +kernel) ⟨Nat.le_of_ble_eq_true rfl, Nat.le_of_ble_eq_true rfl⟩) rfl rfl ha40 hT41 (by decide) rfl (Nat.le_of_ble_eq_true rfl) dL_law_1420 ⟨hg42.1, hg42.2⟩ hg42.1 hg42.2
    refine g_callXV (ci := 9) (b := a40) (As := [vI x27, vI (4 : Int32)]) (st := []) (v := some (vI r39)) (M1 := M39) X2 (m_X11_pact l hlx hH0 hq39) (cwV 2 X.2.2.1 gL_law_X11_pact rfl rfl rfl (by decide +kernel) ⟨Nat.le_of_ble_eq_true rfl, Nat.le_of_ble_eq_true rfl⟩) rfl rfl ha40 hT41 (by decide) rfl (Nat.le_of_ble_eq_true rfl) dL_law_1420 ⟨hg42.1, hg42.2⟩ ?_
    refine g_aload X dL_law_1423 rfl ?_
    refine g_iload X dL_law_1425 rfl ?_
    obtain ⟨a45, ha45, hf⟩ := dr_e hf
    obtain ⟨hT46, hf⟩ := ck_e hf
    obtain ⟨hg47, hf⟩ := ck_e hf
    refine g_aaldA X dL_law_1427 ha45 hT46 hg47 ?_
    refine g_iconst (v := (4 : Int32)) X dL_law_1428 (by decide) ?_
    obtain ⟨a48, ha48, hf⟩ := dr_e hf
    obtain ⟨hT49, hf⟩ := ck_e hf
    obtain ⟨hg50, hf⟩ := ck_e hf
    refine g_iald X dL_law_1429 ha48 hT49 hg50 ?_
    refine g_icmp_lt (tgt := 1459) X dL_law_1430 (by decide) (fun hc => ?_) (fun hc => ?_)
    · have hf := ife_t hc hf
      obtain ⟨w51, hw51, hz51⟩ := oI_e hf
      subst hz51
      have hf := hw51
      obtain ⟨w52, hw52, hz52⟩ := oI_e hf
      subst hz52
      have hf := hw52
      refine g_sub (lvsub_of _ _ [] rfl) ?_
      exact t_L_law_1459 X2 hr hlx hH hne hH0 _ _ _ _ hf hK
    · have hf := ife_f hc hf
      refine g_aload X dL_law_1433 rfl ?_
      refine g_iload X dL_law_1435 rfl ?_
      obtain ⟨hg53, hf⟩ := ck_e hf
      refine g_aaldA X dL_law_1437 ha45 hT46 hg53 ?_
      refine g_iconst (v := (0 : Int32)) X dL_law_1438 (by decide) ?_
      obtain ⟨hg54, hf⟩ := ck_e hf
      refine g_iald X dL_law_1439 ha48 hT49 hg54 ?_
      refine g_iconst (v := (1 : Int32)) X dL_law_1440 (by decide) ?_
      refine g_icmp_ne (tgt := 1461) X dL_law_1441 (by decide) (fun hc => ?_) (fun hc => ?_)
      · have hf := ife_f hc hf
        refine g_sub (lvsub_of _ _ [0, 1, 2, 3, 4, 5, 6, 7, 8, 9, 10, 11, 12] rfl) ?_
        exact t_L_law_1461 X2 hr hlx hH hne hH0 _ _ _ _ _ _ _ _ _ _ _ _ _ _ _ _ hf hK
      · have hf := ife_t hc hf
        refine g_aload_n X dL_law_1444 rfl rfl ?_
        refine g_iload X dL_law_1445 rfl ?_
        refine g_iconst (v := (4 : Int32)) X dL_law_1447 (by decide) ?_
        obtain ⟨hT56, hf⟩ := ck_e hf
        obtain ⟨hg57, hf⟩ := ck_e hf
        rcases bx_e hf with ⟨e55, M55, hq55, hf⟩ | ⟨r55, M55, hq55, hf⟩
        · obtain ⟨w58, hw58, hz58⟩ := oI_e hf
          subst hz58
          have hf := hw58
          obtain ⟨w59, hw59, hz59⟩ := oI_e hf
          subst hz59
          have hf := hw59
          cases hf
          refine g_eqQ hK ?_
          exact g_callTV (ci := 9) (b := a40) (As := [vI x27, vI (4 : Int32)]) (st := []) (M1 := M55) X2 hne (m_X11_pact l hlx hH0 hq55) (cwV 2 X.2.2.1 gL_law_X11_pact rfl rfl rfl (by decide +kernel) ⟨Nat.le_of_ble_eq_true rfl, Nat.le_of_ble_eq_true rfl⟩) rfl rfl ha40 hT56 (by decide) rfl (Nat.le_of_ble_eq_true rfl) dL_law_1448 ⟨hg57.1, hg57.2⟩ hg57.1 hg57.2
        refine g_callXV (ci := 9) (b := a40) (As := [vI x27, vI (4 : Int32)]) (st := []) (v := some (vI r55)) (M1 := M55) X2 (m_X11_pact l hlx hH0 hq55) (cwV 2 X.2.2.1 gL_law_X11_pact rfl rfl rfl (by decide +kernel) ⟨Nat.le_of_ble_eq_true rfl, Nat.le_of_ble_eq_true rfl⟩) rfl rfl ha40 hT56 (by decide) rfl (Nat.le_of_ble_eq_true rfl) dL_law_1448 ⟨hg57.1, hg57.2⟩ ?_
        refine g_if_ne (tgt := 1459) X dL_law_1451 (by decide) (fun hc => ?_) (fun hc => ?_)
        · have hf := ife_f hc hf
          obtain ⟨w60, hw60, hz60⟩ := oI_e hf
          subst hz60
          have hf := hw60
          obtain ⟨w61, hw61, hz61⟩ := oI_e hf
          subst hz61
          have hf := hw61
          refine g_sub (lvsub_of _ _ [] rfl) ?_
          exact t_L_law_1459 X2 hr hlx hH hne hH0 _ _ _ _ hf hK
        · have hf := ife_t hc hf
          refine g_iload X dL_law_1454 rfl ?_
          refine g_if_eq (tgt := 1461) X dL_law_1456 (by decide) (fun hc => ?_) (fun hc => ?_)
          · have hf := ife_t hc hf
            refine g_sub (lvsub_of _ _ [0, 1, 2, 3, 4, 5, 6, 7, 8, 9, 10, 11, 12] rfl) ?_
            exact t_L_law_1461 X2 hr hlx hH hne hH0 _ _ _ _ _ _ _ _ _ _ _ _ _ _ _ _ hf hK
          · have hf := ife_f hc hf
            obtain ⟨w62, hw62, hz62⟩ := oI_e hf
            subst hz62
            have hf := hw62
            obtain ⟨w63, hw63, hz63⟩ := oI_e hf
            subst hz63
            have hf := hw63
            refine g_sub (lvsub_of _ _ [] rfl) ?_
            exact t_L_law_1459 X2 hr hlx hH hne hH0 _ _ _ _ hf hK
set_option maxHeartbeats 4000000 in
set_option maxRecDepth 100000 in
theorem t_L_law_1386 (X2 : gX p s m args meth c D cy B (gSt2 Z B H0) RL cL_law wsL_law 34) (hr : meth.sig.returnType = (some .boolean)) (hlx : l.stackTraces = false) (hH : ∀ q : Nat, q < B → s.heap[q]? = H0[q]?) (hne : ∀ x ∈ c.exceptionTable.toList, False) (hH0 : H0.size = B) {Q : State → Prop} : ∀ (M : gMem) (kc : Nat) (kn : Nat) (x2 : Option Nat) (x3 : Option Nat) (x4 : Int32) (x5 : Int32) (x6 : Int32) (x7 : Int32) (x10 : Option Nat) (x12 : Option Nat) (x21 : Int32) (x23 : Int32) (x26 : Int32) (x27 : Int32) (x29 : Int32) (z : (gMem × Nat × Nat × Int32 × Int32) ⊕ ((gMem × Nat × Nat × Int32) ⊕ ((Nat ⊕ Int32) × gMem))), b_L_law_1386 Z M kc kn x2 x3 x4 x5 x6 x7 x10 x12 x21 x23 x26 x27 x29 = some z → (Sum.elim (fun (q : gMem × Nat × Nat × Int32 × Int32) => gGo p l e rL_law s m args below meth c D cy B H0 34 q.2.1 q.2.2.1 Q 1278 [(0, vR (some (Z 400))), (2, vR x2), (3, vR x3), (4, vI x4), (5, vI x5), (6, vI x6), (7, vI x7), (10, vR x10), (12, vR x12), (21, vI x21), (23, vI x23), (26, vI q.2.2.2.1), (27, vI q.2.2.2.2)] [] q.1) (Sum.elim (fun (q : gMem × Nat × Nat × Int32) => gGo p l e rL_law s m args below meth c D cy B H0 34 q.2.1 q.2.2.1 Q 59 [(0, vR (some (Z 400))), (2, vR x2), (3, vR x3), (4, vI x4), (5, vI x5), (6, vI x6), (7, vI q.2.2.2)] [] q.1) (fun (r : (Nat ⊕ Int32) × gMem) => Q = gMX below D cy B H0 args s 600086 7301442 (gzI r.1) r.2))) z → gGo p l e rL_law s m args below meth c D cy B H0 34 kc kn Q 1386 [(0, vR (some (Z 400))), (2, vR x2), (3, vR x3), (4, vI x4), (5, vI x5), (6, vI x6), (7, vI x7), (10, vR x10), (12, vR x12), (21, vI x21), (23, vI x23), (26, vI x26), (27, vI x27), (29, vI x29)] [] M := by
  intro M kc kn x2 x3 x4 x5 x6 x7 x10 x12 x21 x23 x26 x27 x29 z hf hK
  unfold b_L_law_1386 at hf
  have X := gX_w X2
  refine g_aload_n X dL_law_1386 rfl rfl ?_
  refine g_iload X dL_law_1387 rfl ?_
  refine g_bipush (v := (6 : Int32)) X dL_law_1389 (by decide) ?_
  obtain ⟨a65, ha65, hf⟩ := dr_e hf
  obtain ⟨hT66, hf⟩ := ck_e hf
  obtain ⟨hg67, hf⟩ := ck_e hf
  rcases bx_e hf with ⟨e64, M64, hq64, hf⟩ | ⟨r64, M64, hq64, hf⟩
  · obtain ⟨w68, hw68, hz68⟩ := oI_e hf
    subst hz68
    have hf := hw68
    obtain ⟨w69, hw69, hz69⟩ := oI_e hf
    subst hz69
    have hf := hw69
    cases hf
    refine g_eqQ hK ?_
    exact g_callTV (ci := 9) (b := a65) (As := [vI x27, vI (6 : Int32)]) (st := []) (M1 := M64) X2 hne (m_X11_pact l hlx hH0 hq64) (cwV 2 X.2.2.1 gL_law_X11_pact rfl rfl rfl (by decide +kernel) ⟨Nat.le_of_ble_eq_true rfl, Nat.le_of_ble_eq_true rfl⟩) rfl rfl ha65 hT66 (by decide) rfl (Nat.le_of_ble_eq_true rfl) dL_law_1391 ⟨hg67.1, hg67.2⟩ hg67.1 hg67.2
  refine g_callXV (ci := 9) (b := a65) (As := [vI x27, vI (6 : Int32)]) (st := []) (v := some (vI r64)) (M1 := M64) X2 (m_X11_pact l hlx hH0 hq64) (cwV 2 X.2.2.1 gL_law_X11_pact rfl rfl rfl (by decide +kernel) ⟨Nat.le_of_ble_eq_true rfl, Nat.le_of_ble_eq_true rfl⟩) rfl rfl ha65 hT66 (by decide) rfl (Nat.le_of_ble_eq_true rfl) dL_law_1391 ⟨hg67.1, hg67.2⟩ ?_
  refine g_aload X dL_law_1394 rfl ?_
  refine g_iload X dL_law_1396 rfl ?_
  obtain ⟨a70, ha70, hf⟩ := dr_e hf
  obtain ⟨hT71, hf⟩ := ck_e hf
  obtain ⟨hg72, hf⟩ := ck_e hf
  refine g_aaldA X dL_law_1398 ha70 hT71 hg72 ?_
  refine g_bipush (v := (6 : Int32)) X dL_law_1399 (by decide) ?_
  obtain ⟨a73, ha73, hf⟩ := dr_e hf
  obtain ⟨hT74, hf⟩ := ck_e hf
  obtain ⟨hg75, hf⟩ := ck_e hf
  refine g_iald X dL_law_1401 ha73 hT74 hg75 ?_
  refine g_iload X dL_law_1402 rfl ?_
  refine g_if_le (tgt := 1411) X dL_law_1404 (by decide) (fun hc => ?_) (fun hc => ?_)
  · have hf := ife_t hc hf
    refine g_iconst (v := (0 : Int32)) X dL_law_1411 (by decide) ?_
    refine g_sub (lvsub_of _ _ [0, 1, 2, 3, 4, 5, 6, 7, 8, 9, 10, 11, 12, 13] rfl) ?_
    exact t_L_law_1412 X2 hr hlx hH hne hH0 _ _ _ _ _ _ _ _ _ _ _ _ _ _ _ _ _ _ _ _ hf hK
  · have hf := ife_f hc hf
    refine g_iconst (v := (1 : Int32)) X dL_law_1407 (by decide) ?_
    refine g_goto (tgt := 1412) X dL_law_1408 (by decide) ?_
    refine g_sub (lvsub_of _ _ [0, 1, 2, 3, 4, 5, 6, 7, 8, 9, 10, 11, 12, 13] rfl) ?_
    exact t_L_law_1412 X2 hr hlx hH hne hH0 _ _ _ _ _ _ _ _ _ _ _ _ _ _ _ _ _ _ _ _ hf hK
set_option maxHeartbeats 4000000 in
set_option maxRecDepth 100000 in
theorem t_L_law_1338 (X2 : gX p s m args meth c D cy B (gSt2 Z B H0) RL cL_law wsL_law 34) (hr : meth.sig.returnType = (some .boolean)) (hlx : l.stackTraces = false) (hH : ∀ q : Nat, q < B → s.heap[q]? = H0[q]?) (hne : ∀ x ∈ c.exceptionTable.toList, False) (hH0 : H0.size = B) {Q : State → Prop} : ∀ (M : gMem) (kc : Nat) (kn : Nat) (x2 : Option Nat) (x3 : Option Nat) (x4 : Int32) (x5 : Int32) (x6 : Int32) (x7 : Int32) (x10 : Option Nat) (x12 : Option Nat) (x21 : Int32) (x23 : Int32) (x26 : Int32) (x27 : Int32) (x29 : Option Nat) (x30 : Int32) (x31 : Int32) (s0 : Int32) (s1 : Int32) (z : (gMem × Nat × Nat × Int32 × Int32) ⊕ ((gMem × Nat × Nat × Int32 × Int32) ⊕ ((gMem × Nat × Nat × Int32) ⊕ ((Nat ⊕ Int32) × gMem)))), b_L_law_1338 Z M kc kn x2 x3 x4 x5 x6 x7 x10 x12 x21 x23 x26 x27 x29 x30 x31 s0 s1 = some z → (Sum.elim (fun (q : gMem × Nat × Nat × Int32 × Int32) => gGo p l e rL_law s m args below meth c D cy B H0 34 q.2.1 q.2.2.1 Q 1305 [(0, vR (some (Z 400))), (2, vR x2), (3, vR x3), (4, vI x4), (5, vI x5), (6, vI x6), (7, vI x7), (10, vR x10), (12, vR x12), (21, vI x21), (23, vI x23), (26, vI x26), (27, vI x27), (28, vI q.2.2.2.1), (29, vR x29), (30, vI x30), (31, vI q.2.2.2.2)] [] q.1) (Sum.elim (fun (q : gMem × Nat × Nat × Int32 × Int32) => gGo p l e rL_law s m args below meth c D cy B H0 34 q.2.1 q.2.2.1 Q 1278 [(0, vR (some (Z 400))), (2, vR x2), (3, vR x3), (4, vI x4), (5, vI x5), (6, vI x6), (7, vI x7), (10, vR x10), (12, vR x12), (21, vI x21), (23, vI x23), (26, vI q.2.2.2.1), (27, vI q.2.2.2.2)] [] q.1) (Sum.elim (fun (q : gMem × Nat × Nat × Int32) => gGo p l e rL_law s m args below meth c D cy B H0 34 q.2.1 q.2.2.1 Q 59 [(0, vR (some (Z 400))), (2, vR x2), (3, vR x3), (4, vI x4), (5, vI x5), (6, vI x6), (7, vI q.2.2.2)] [] q.1) (fun (r : (Nat ⊕ Int32) × gMem) => Q = gMX below D cy B H0 args s 600086 7301442 (gzI r.1) r.2)))) z → gGo p l e rL_law s m args below meth c D cy B H0 34 kc kn Q 1338 [(0, vR (some (Z 400))), (2, vR x2), (3, vR x3), (4, vI x4), (5, vI x5), (6, vI x6), (7, vI x7), (10, vR x10), (12, vR x12), (21, vI x21), (23, vI x23), (26, vI x26), (27, vI x27), (29, vR x29), (30, vI x30), (31, vI x31)] [vI s1, vI s0] M := by
  intro M kc kn x2 x3 x4 x5 x6 x7 x10 x12 x21 x23 x26 x27 x29 x30 x31 s0 s1 z hf hK
  unfold b_L_law_1338 at hf
  have X := gX_w X2
  refine g_ior X dL_law_1338 ?_
  refine g_istore (lv' := [(28, vI (s0 ||| s1)), (0, vR (some (Z 400))), (2, vR x2), (3, vR x3), (4, vI x4), (5, vI x5), (6, vI x6), (7, vI x7), (10, vR x10), (12, vR x12), (21, vI x21), (23, vI x23), (26, vI x26), (27, vI x27), (29, vR x29), (30, vI x30), (31, vI x31)]) X dL_law_1339 (by decide) rfl ?_
  refine g_iinc (v := (1 : Int32)) (lv' := [(31, vI (x31 + (1 : Int32))), (28, vI (s0 ||| s1)), (0, vR (some (Z 400))), (2, vR x2), (3, vR x3), (4, vI x4), (5, vI x5), (6, vI x6), (7, vI x7), (10, vR x10), (12, vR x12), (21, vI x21), (23, vI x23), (26, vI x26), (27, vI x27), (29, vR x29), (30, vI x30)]) X dL_law_1341 rfl (by decide) (by decide) rfl ?_
  refine g_goto (tgt := 1305) X dL_law_1344 (by decide) ?_
  cases hf
  refine g_sub (lvsub_of _ _ [2, 3, 4, 5, 6, 7, 8, 9, 10, 11, 12, 13, 14, 1, 15, 16, 0] rfl) ?_
  exact hK
set_option maxHeartbeats 4000000 in
set_option maxRecDepth 100000 in
theorem tb_L_law_1305 (X2 : gX p s m args meth c D cy B (gSt2 Z B H0) RL cL_law wsL_law 34) (hr : meth.sig.returnType = (some .boolean)) (hlx : l.stackTraces = false) (hH : ∀ q : Nat, q < B → s.heap[q]? = H0[q]?) (hne : ∀ x ∈ c.exceptionTable.toList, False) (hH0 : H0.size = B) {Q : State → Prop} : ∀ (M : gMem) (kc : Nat) (kn : Nat) (x2 : Option Nat) (x3 : Option Nat) (x4 : Int32) (x5 : Int32) (x6 : Int32) (x7 : Int32) (x10 : Option Nat) (x12 : Option Nat) (x21 : Int32) (x23 : Int32) (x26 : Int32) (x27 : Int32) (x28 : Int32) (x29 : Option Nat) (x30 : Int32) (x31 : Int32) (z : (gMem × Nat × Nat × Int32 × Int32) ⊕ ((gMem × Nat × Nat × Int32 × Int32) ⊕ ((gMem × Nat × Nat × Int32) ⊕ ((Nat ⊕ Int32) × gMem)))), bb_L_law_1305 Z M kc kn x2 x3 x4 x5 x6 x7 x10 x12 x21 x23 x26 x27 x28 x29 x30 x31 = some z → (Sum.elim (fun (q : gMem × Nat × Nat × Int32 × Int32) => gGo p l e rL_law s m args below meth c D cy B H0 34 q.2.1 q.2.2.1 Q 1305 [(0, vR (some (Z 400))), (2, vR x2), (3, vR x3), (4, vI x4), (5, vI x5), (6, vI x6), (7, vI x7), (10, vR x10), (12, vR x12), (21, vI x21), (23, vI x23), (26, vI x26), (27, vI x27), (28, vI q.2.2.2.1), (29, vR x29), (30, vI x30), (31, vI q.2.2.2.2)] [] q.1) (Sum.elim (fun (q : gMem × Nat × Nat × Int32 × Int32) => gGo p l e rL_law s m args below meth c D cy B H0 34 q.2.1 q.2.2.1 Q 1278 [(0, vR (some (Z 400))), (2, vR x2), (3, vR x3), (4, vI x4), (5, vI x5), (6, vI x6), (7, vI x7), (10, vR x10), (12, vR x12), (21, vI x21), (23, vI x23), (26, vI q.2.2.2.1), (27, vI q.2.2.2.2)] [] q.1) (Sum.elim (fun (q : gMem × Nat × Nat × Int32) => gGo p l e rL_law s m args below meth c D cy B H0 34 q.2.1 q.2.2.1 Q 59 [(0, vR (some (Z 400))), (2, vR x2), (3, vR x3), (4, vI x4), (5, vI x5), (6, vI x6), (7, vI q.2.2.2)] [] q.1) (fun (r : (Nat ⊕ Int32) × gMem) => Q = gMX below D cy B H0 args s 600086 7301442 (gzI r.1) r.2)))) z → gGo p l e rL_law s m args below meth c D cy B H0 34 kc kn Q 1305 [(0, vR (some (Z 400))), (2, vR x2), (3, vR x3), (4, vI x4), (5, vI x5), (6, vI x6), (7, vI x7), (10, vR x10), (12, vR x12), (21, vI x21), (23, vI x23), (26, vI x26), (27, vI x27), (28, vI x28), (29, vR x29), (30, vI x30), (31, vI x31)] [] M := by
  intro M kc kn x2 x3 x4 x5 x6 x7 x10 x12 x21 x23 x26 x27 x28 x29 x30 x31 z hf hK
  unfold bb_L_law_1305 at hf
  have X := gX_w X2
  refine g_iload X dL_law_1305 rfl ?_
  refine g_iload X dL_law_1307 rfl ?_
  refine g_icmp_ge (tgt := 1347) X dL_law_1309 (by decide) (fun hc => ?_) (fun hc => ?_)
  · have hf := ife_t hc hf
    refine g_aload_n X dL_law_1347 rfl rfl ?_
    refine g_iload X dL_law_1348 rfl ?_
    refine g_iconst (v := (5 : Int32)) X dL_law_1350 (by decide) ?_
    obtain ⟨a77, ha77, hf⟩ := dr_e hf
    obtain ⟨hT78, hf⟩ := ck_e hf
    obtain ⟨hg79, hf⟩ := ck_e hf
    rcases bx_e hf with ⟨e76, M76, hq76, hf⟩ | ⟨r76, M76, hq76, hf⟩
    · obtain ⟨w80, hw80, hz80⟩ := oI_e hf
      subst hz80
      have hf := hw80
      obtain ⟨w81, hw81, hz81⟩ := oI_e hf
      subst hz81
      have hf := hw81
      obtain ⟨w82, hw82, hz82⟩ := oI_e hf
      subst hz82
      have hf := hw82
      cases hf
      refine g_eqQ hK ?_
      exact g_callTV (ci := 9) (b := a77) (As := [vI x27, vI (5 : Int32)]) (st := []) (M1 := M76) X2 hne (m_X11_pact l hlx hH0 hq76) (cwV 2 X.2.2.1 gL_law_X11_pact rfl rfl rfl (by decide +kernel) ⟨Nat.le_of_ble_eq_true rfl, Nat.le_of_ble_eq_true rfl⟩) rfl rfl ha77 hT78 (by decide) rfl (Nat.le_of_ble_eq_true rfl) dL_law_1351 ⟨hg79.1, hg79.2⟩ hg79.1 hg79.2
    refine g_callXV (ci := 9) (b := a77) (As := [vI x27, vI (5 : Int32)]) (st := []) (v := some (vI r76)) (M1 := M76) X2 (m_X11_pact l hlx hH0 hq76) (cwV 2 X.2.2.1 gL_law_X11_pact rfl rfl rfl (by decide +kernel) ⟨Nat.le_of_ble_eq_true rfl, Nat.le_of_ble_eq_true rfl⟩) rfl rfl ha77 hT78 (by decide) rfl (Nat.le_of_ble_eq_true rfl) dL_law_1351 ⟨hg79.1, hg79.2⟩ ?_
    refine g_aload X dL_law_1354 rfl ?_
    refine g_iload X dL_law_1356 rfl ?_
    obtain ⟨a83, ha83, hf⟩ := dr_e hf
    obtain ⟨hT84, hf⟩ := ck_e hf
    obtain ⟨hg85, hf⟩ := ck_e hf
    refine g_aaldA X dL_law_1358 ha83 hT84 hg85 ?_
    refine g_iconst (v := (5 : Int32)) X dL_law_1359 (by decide) ?_
    obtain ⟨a86, ha86, hf⟩ := dr_e hf
    obtain ⟨hT87, hf⟩ := ck_e hf
    obtain ⟨hg88, hf⟩ := ck_e hf
    refine g_iald X dL_law_1360 ha86 hT87 hg88 ?_
    refine g_isub X dL_law_1361 ?_
    refine g_istore (lv' := [(29, vI (r76 - (mI M76 a86 ((5 : Int32)).toNatClampNeg))), (0, vR (some (Z 400))), (2, vR x2), (3, vR x3), (4, vI x4), (5, vI x5), (6, vI x6), (7, vI x7), (10, vR x10), (12, vR x12), (21, vI x21), (23, vI x23), (26, vI x26), (27, vI x27), (28, vI x28), (30, vI x30), (31, vI x31)]) X dL_law_1362 (by decide) rfl ?_
    refine g_iload X dL_law_1364 rfl ?_
    refine g_iload X dL_law_1366 rfl ?_
    refine g_iadd X dL_law_1368 ?_
    refine g_istore (lv' := [(26, vI (x26 + (r76 - (mI M76 a86 ((5 : Int32)).toNatClampNeg)))), (29, vI (r76 - (mI M76 a86 ((5 : Int32)).toNatClampNeg))), (0, vR (some (Z 400))), (2, vR x2), (3, vR x3), (4, vI x4), (5, vI x5), (6, vI x6), (7, vI x7), (10, vR x10), (12, vR x12), (21, vI x21), (23, vI x23), (27, vI x27), (28, vI x28), (30, vI x30), (31, vI x31)]) X dL_law_1369 (by decide) rfl ?_
    refine g_iload X dL_law_1371 rfl ?_
    refine g_if_lt (tgt := 1459) X dL_law_1373 (by decide) (fun hc => ?_) (fun hc => ?_)
    · have hf := ife_t hc hf
      obtain ⟨w89, hw89, hz89⟩ := oI_e hf
      subst hz89
      have hf := hw89
      obtain ⟨w90, hw90, hz90⟩ := oI_e hf
      subst hz90
      have hf := hw90
      obtain ⟨w91, hw91, hz91⟩ := oI_e hf
      subst hz91
      have hf := hw91
      refine g_sub (lvsub_of _ _ [] rfl) ?_
      exact t_L_law_1459 X2 hr hlx hH hne hH0 _ _ _ _ hf hK
    · have hf := ife_f hc hf
      refine g_iload X dL_law_1376 rfl ?_
      refine g_if_le (tgt := 1386) X dL_law_1378 (by decide) (fun hc => ?_) (fun hc => ?_)
      · have hf := ife_t hc hf
        obtain ⟨w92, hw92, hz92⟩ := oI_e hf
        subst hz92
        have hf := hw92
        refine g_sub (lvsub_of _ _ [2, 3, 4, 5, 6, 7, 8, 9, 10, 11, 12, 0, 13, 1] rfl) ?_
        exact t_L_law_1386 X2 hr hlx hH hne hH0 _ _ _ _ _ _ _ _ _ _ _ _ _ _ _ _ _ hf hK
      · have hf := ife_f hc hf
        refine g_iload X dL_law_1381 rfl ?_
        refine g_if_eq (tgt := 1459) X dL_law_1383 (by decide) (fun hc => ?_) (fun hc => ?_)
        · have hf := ife_t hc hf
          obtain ⟨w93, hw93, hz93⟩ := oI_e hf
          subst hz93
          have hf := hw93
          obtain ⟨w94, hw94, hz94⟩ := oI_e hf
          subst hz94
          have hf := hw94
          obtain ⟨w95, hw95, hz95⟩ := oI_e hf
          subst hz95
          have hf := hw95
          refine g_sub (lvsub_of _ _ [] rfl) ?_
          exact t_L_law_1459 X2 hr hlx hH hne hH0 _ _ _ _ hf hK
        · have hf := ife_f hc hf
          obtain ⟨w96, hw96, hz96⟩ := oI_e hf
          subst hz96
          have hf := hw96
          refine g_sub (lvsub_of _ _ [2, 3, 4, 5, 6, 7, 8, 9, 10, 11, 12, 0, 13, 1] rfl) ?_
          exact t_L_law_1386 X2 hr hlx hH hne hH0 _ _ _ _ _ _ _ _ _ _ _ _ _ _ _ _ _ hf hK
  · have hf := ife_f hc hf
    refine g_aload X dL_law_1312 rfl ?_
    refine g_iload X dL_law_1314 rfl ?_
    obtain ⟨a97, ha97, hf⟩ := dr_e hf
    obtain ⟨hT98, hf⟩ := ck_e hf
    obtain ⟨hg99, hf⟩ := ck_e hf
    refine g_iald X dL_law_1316 ha97 hT98 hg99 ?_
    refine g_istore (lv' := [(32, vI (mI M a97 x31.toNatClampNeg)), (0, vR (some (Z 400))), (2, vR x2), (3, vR x3), (4, vI x4), (5, vI x5), (6, vI x6), (7, vI x7), (10, vR x10), (12, vR x12), (21, vI x21), (23, vI x23), (26, vI x26), (27, vI x27), (28, vI x28), (29, vR x29), (30, vI x30), (31, vI x31)]) X dL_law_1317 (by decide) rfl ?_
    refine g_iload X dL_law_1319 rfl ?_
    refine g_aload X dL_law_1321 rfl ?_
    refine g_iload X dL_law_1323 rfl ?_
    obtain ⟨a100, ha100, hf⟩ := dr_e hf
    obtain ⟨hT101, hf⟩ := ck_e hf
    obtain ⟨hg102, hf⟩ := ck_e hf
    refine g_aaldA X dL_law_1325 ha100 hT101 hg102 ?_
    refine g_bipush (v := (8 : Int32)) X dL_law_1326 (by decide) ?_
    obtain ⟨a103, ha103, hf⟩ := dr_e hf
    obtain ⟨hT104, hf⟩ := ck_e hf
    obtain ⟨hg105, hf⟩ := ck_e hf
    refine g_iald X dL_law_1328 ha103 hT104 hg105 ?_
    refine g_iconst (v := (1 : Int32)) X dL_law_1329 (by decide) ?_
    refine g_icmp_ne (tgt := 1337) X dL_law_1330 (by decide) (fun hc => ?_) (fun hc => ?_)
    · have hf := ife_f hc hf
      refine g_iconst (v := (0 : Int32)) X dL_law_1337 (by decide) ?_
      refine g_sub (lvsub_of _ _ [1, 2, 3, 4, 5, 6, 7, 8, 9, 10, 11, 12, 13, 15, 16, 17] rfl) ?_
      exact t_L_law_1338 X2 hr hlx hH hne hH0 _ _ _ _ _ _ _ _ _ _ _ _ _ _ _ _ _ _ _ _ _ hf hK
    · have hf := ife_t hc hf
      refine g_iconst (v := (1 : Int32)) X dL_law_1333 (by decide) ?_
      refine g_goto (tgt := 1338) X dL_law_1334 (by decide) ?_
      refine g_sub (lvsub_of _ _ [1, 2, 3, 4, 5, 6, 7, 8, 9, 10, 11, 12, 13, 15, 16, 17] rfl) ?_
      exact t_L_law_1338 X2 hr hlx hH hne hH0 _ _ _ _ _ _ _ _ _ _ _ _ _ _ _ _ _ _ _ _ _ hf hK
set_option maxHeartbeats 4000000 in
set_option maxRecDepth 100000 in
theorem tl_L_law_1305 (X2 : gX p s m args meth c D cy B (gSt2 Z B H0) RL cL_law wsL_law 34) (hr : meth.sig.returnType = (some .boolean)) (hlx : l.stackTraces = false) (hH : ∀ q : Nat, q < B → s.heap[q]? = H0[q]?) (hne : ∀ x ∈ c.exceptionTable.toList, False) (hH0 : H0.size = B) {Q : State → Prop} : ∀ (M : gMem) (kc : Nat) (kn : Nat) (x2 : Option Nat) (x3 : Option Nat) (x4 : Int32) (x5 : Int32) (x6 : Int32) (x7 : Int32) (x10 : Option Nat) (x12 : Option Nat) (x21 : Int32) (x23 : Int32) (x26 : Int32) (x27 : Int32) (x28 : Int32) (x29 : Option Nat) (x30 : Int32) (x31 : Int32) (z : (gMem × Nat × Nat × Int32 × Int32) ⊕ ((gMem × Nat × Nat × Int32) ⊕ ((Nat ⊕ Int32) × gMem))), lp_L_law_1305 Z M kc kn x2 x3 x4 x5 x6 x7 x10 x12 x21 x23 x26 x27 x28 x29 x30 x31 = some z → (Sum.elim (fun (q : gMem × Nat × Nat × Int32 × Int32) => gGo p l e rL_law s m args below meth c D cy B H0 34 q.2.1 q.2.2.1 Q 1278 [(0, vR (some (Z 400))), (2, vR x2), (3, vR x3), (4, vI x4), (5, vI x5), (6, vI x6), (7, vI x7), (10, vR x10), (12, vR x12), (21, vI x21), (23, vI x23), (26, vI q.2.2.2.1), (27, vI q.2.2.2.2)] [] q.1) (Sum.elim (fun (q : gMem × Nat × Nat × Int32) => gGo p l e rL_law s m args below meth c D cy B H0 34 q.2.1 q.2.2.1 Q 59 [(0, vR (some (Z 400))), (2, vR x2), (3, vR x3), (4, vI x4), (5, vI x5), (6, vI x6), (7, vI q.2.2.2)] [] q.1) (fun (r : (Nat ⊕ Int32) × gMem) => Q = gMX below D cy B H0 args s 600086 7301442 (gzI r.1) r.2))) z → gGo p l e rL_law s m args below meth c D cy B H0 34 kc kn Q 1305 [(0, vR (some (Z 400))), (2, vR x2), (3, vR x3), (4, vI x4), (5, vI x5), (6, vI x6), (7, vI x7), (10, vR x10), (12, vR x12), (21, vI x21), (23, vI x23), (26, vI x26), (27, vI x27), (28, vI x28), (29, vR x29), (30, vI x30), (31, vI x31)] [] M := by
  intro M kc kn x2 x3 x4 x5 x6 x7 x10 x12 x21 x23 x26 x27 x28 x29 x30 x31 z hf hK
  refine lp_ind (P := (fun (q : gMem × Nat × Nat × Int32 × Int32) (z : (gMem × Nat × Nat × Int32 × Int32) ⊕ ((gMem × Nat × Nat × Int32) ⊕ ((Nat ⊕ Int32) × gMem))) => (Sum.elim (fun (q : gMem × Nat × Nat × Int32 × Int32) => gGo p l e rL_law s m args below meth c D cy B H0 34 q.2.1 q.2.2.1 Q 1278 [(0, vR (some (Z 400))), (2, vR x2), (3, vR x3), (4, vI x4), (5, vI x5), (6, vI x6), (7, vI x7), (10, vR x10), (12, vR x12), (21, vI x21), (23, vI x23), (26, vI q.2.2.2.1), (27, vI q.2.2.2.2)] [] q.1) (Sum.elim (fun (q : gMem × Nat × Nat × Int32) => gGo p l e rL_law s m args below meth c D cy B H0 34 q.2.1 q.2.2.1 Q 59 [(0, vR (some (Z 400))), (2, vR x2), (3, vR x3), (4, vI x4), (5, vI x5), (6, vI x6), (7, vI q.2.2.2)] [] q.1) (fun (r : (Nat ⊕ Int32) × gMem) => Q = gMX below D cy B H0 args s 600086 7301442 (gzI r.1) r.2))) z → gGo p l e rL_law s m args below meth c D cy B H0 34 q.2.1 q.2.2.1 Q 1305 [(0, vR (some (Z 400))), (2, vR x2), (3, vR x3), (4, vI x4), (5, vI x5), (6, vI x6), (7, vI x7), (10, vR x10), (12, vR x12), (21, vI x21), (23, vI x23), (26, vI x26), (27, vI x27), (28, vI q.2.2.2.1), (29, vR x29), (30, vI x30), (31, vI q.2.2.2.2)] [] q.1)) (fun q z hq => ?_) _ _ hf hK
  intro hK
  obtain ⟨w, hw, hm⟩ := hq
  refine tb_L_law_1305 X2 hr hlx hH hne hH0 _ _ _ _ _ _ _ _ _ _ _ _ _ _ _ _ _ _ _ w hw ?_
  cases w with
  | inl a => exact hm hK
  | inr b => cases hm; exact hK
set_option maxHeartbeats 4000000 in
set_option maxRecDepth 100000 in
theorem tb_L_law_1278 (X2 : gX p s m args meth c D cy B (gSt2 Z B H0) RL cL_law wsL_law 34) (hr : meth.sig.returnType = (some .boolean)) (hlx : l.stackTraces = false) (hH : ∀ q : Nat, q < B → s.heap[q]? = H0[q]?) (hne : ∀ x ∈ c.exceptionTable.toList, False) (hH0 : H0.size = B) {Q : State → Prop} : ∀ (M : gMem) (kc : Nat) (kn : Nat) (x2 : Option Nat) (x3 : Option Nat) (x4 : Int32) (x5 : Int32) (x6 : Int32) (x7 : Int32) (x10 : Option Nat) (x12 : Option Nat) (x21 : Int32) (x23 : Int32) (x26 : Int32) (x27 : Int32) (z : (gMem × Nat × Nat × Int32 × Int32) ⊕ ((gMem × Nat × Nat × Int32) ⊕ ((Nat ⊕ Int32) × gMem))), bb_L_law_1278 Z M kc kn x2 x3 x4 x5 x6 x7 x10 x12 x21 x23 x26 x27 = some z → (Sum.elim (fun (q : gMem × Nat × Nat × Int32 × Int32) => gGo p l e rL_law s m args below meth c D cy B H0 34 q.2.1 q.2.2.1 Q 1278 [(0, vR (some (Z 400))), (2, vR x2), (3, vR x3), (4, vI x4), (5, vI x5), (6, vI x6), (7, vI x7), (10, vR x10), (12, vR x12), (21, vI x21), (23, vI x23), (26, vI q.2.2.2.1), (27, vI q.2.2.2.2)] [] q.1) (Sum.elim (fun (q : gMem × Nat × Nat × Int32) => gGo p l e rL_law s m args below meth c D cy B H0 34 q.2.1 q.2.2.1 Q 59 [(0, vR (some (Z 400))), (2, vR x2), (3, vR x3), (4, vI x4), (5, vI x5), (6, vI x6), (7, vI q.2.2.2)] [] q.1) (fun (r : (Nat ⊕ Int32) × gMem) => Q = gMX below D cy B H0 args s 600086 7301442 (gzI r.1) r.2))) z → gGo p l e rL_law s m args below meth c D cy B H0 34 kc kn Q 1278 [(0, vR (some (Z 400))), (2, vR x2), (3, vR x3), (4, vI x4), (5, vI x5), (6, vI x6), (7, vI x7), (10, vR x10), (12, vR x12), (21, vI x21), (23, vI x23), (26, vI x26), (27, vI x27)] [] M := by
  intro M kc kn x2 x3 x4 x5 x6 x7 x10 x12 x21 x23 x26 x27 z hf hK
  unfold bb_L_law_1278 at hf
  have X := gX_w X2
  refine g_iload X dL_law_1278 rfl ?_
  refine g_iload X dL_law_1280 rfl ?_
  refine g_icmp_ge (tgt := 1503) X dL_law_1282 (by decide) (fun hc => ?_) (fun hc => ?_)
  · have hf := ife_t hc hf
    refine g_iconst (v := (0 : Int32)) X dL_law_1503 (by decide) ?_
    refine g_istore (lv' := [(27, vI (0 : Int32)), (0, vR (some (Z 400))), (2, vR x2), (3, vR x3), (4, vI x4), (5, vI x5), (6, vI x6), (7, vI x7), (10, vR x10), (12, vR x12), (21, vI x21), (23, vI x23), (26, vI x26)]) X dL_law_1504 (by decide) rfl ?_
    refine g_iconst (v := (0 : Int32)) X dL_law_1506 (by decide) ?_
    refine g_istore (lv' := [(28, vI (0 : Int32)), (27, vI (0 : Int32)), (0, vR (some (Z 400))), (2, vR x2), (3, vR x3), (4, vI x4), (5, vI x5), (6, vI x6), (7, vI x7), (10, vR x10), (12, vR x12), (21, vI x21), (23, vI x23), (26, vI x26)]) X dL_law_1507 (by decide) rfl ?_
    obtain ⟨w106, hw106, hz106⟩ := oI_e hf
    subst hz106
    have hf := hw106
    refine g_sub (lvsub_of _ _ [2, 3, 4, 5, 6, 7, 8, 11, 12, 13, 1, 0] rfl) ?_
    exact tl_L_law_1509 X2 hr hlx hH hne hH0 _ _ _ _ _ _ _ _ _ _ _ _ _ _ _ hf hK
  · have hf := ife_f hc hf
    refine g_iconst (v := (0 : Int32)) X dL_law_1285 (by decide) ?_
    refine g_istore (lv' := [(28, vI (0 : Int32)), (0, vR (some (Z 400))), (2, vR x2), (3, vR x3), (4, vI x4), (5, vI x5), (6, vI x6), (7, vI x7), (10, vR x10), (12, vR x12), (21, vI x21), (23, vI x23), (26, vI x26), (27, vI x27)]) X dL_law_1286 (by decide) rfl ?_
    refine g_aload_n X dL_law_1288 rfl rfl ?_
    obtain ⟨a107, ha107, hf⟩ := dr_e hf
    obtain ⟨hT108, hf⟩ := ck_e hf
    refine g_get (ci := 10) (v := vR (mR M a107 7)) 7 X cdX12 i_L_law_X12 (by decide) k_L_law_f181 rfl dL_law_1289 ha107 hT108 rfl ?_
    refine g_iload X dL_law_1292 rfl ?_
    obtain ⟨a109, ha109, hf⟩ := dr_e hf
    obtain ⟨hT110, hf⟩ := ck_e hf
    obtain ⟨hg111, hf⟩ := ck_e hf
    refine g_aaldA X dL_law_1294 ha109 hT110 hg111 ?_
    refine g_astore (lv' := [(29, vR (mR M a109 x27.toNatClampNeg)), (28, vI (0 : Int32)), (0, vR (some (Z 400))), (2, vR x2), (3, vR x3), (4, vI x4), (5, vI x5), (6, vI x6), (7, vI x7), (10, vR x10), (12, vR x12), (21, vI x21), (23, vI x23), (26, vI x26), (27, vI x27)]) X dL_law_1295 (by decide) rfl ?_
    refine g_aload X dL_law_1297 rfl ?_
    obtain ⟨a112, ha112, hf⟩ := dr_e hf
    obtain ⟨hT113, hf⟩ := ck_e hf
    refine g_alen (t0 := 0) X dL_law_1299 ha112 hT113 (by decide) rfl ?_
    refine g_istore (lv' := [(30, vI (Int32.ofNat (mL M a112))), (29, vR (mR M a109 x27.toNatClampNeg)), (28, vI (0 : Int32)), (0, vR (some (Z 400))), (2, vR x2), (3, vR x3), (4, vI x4), (5, vI x5), (6, vI x6), (7, vI x7), (10, vR x10), (12, vR x12), (21, vI x21), (23, vI x23), (26, vI x26), (27, vI x27)]) X dL_law_1300 (by decide) rfl ?_
    refine g_iconst (v := (0 : Int32)) X dL_law_1302 (by decide) ?_
    refine g_istore (lv' := [(31, vI (0 : Int32)), (30, vI (Int32.ofNat (mL M a112))), (29, vR (mR M a109 x27.toNatClampNeg)), (28, vI (0 : Int32)), (0, vR (some (Z 400))), (2, vR x2), (3, vR x3), (4, vI x4), (5, vI x5), (6, vI x6), (7, vI x7), (10, vR x10), (12, vR x12), (21, vI x21), (23, vI x23), (26, vI x26), (27, vI x27)]) X dL_law_1303 (by decide) rfl ?_
    refine g_sub (lvsub_of _ _ [4, 5, 6, 7, 8, 9, 10, 11, 12, 13, 14, 15, 16, 3, 2, 1, 0] rfl) ?_
    exact tl_L_law_1305 X2 hr hlx hH hne hH0 _ _ _ _ _ _ _ _ _ _ _ _ _ _ _ _ _ _ _ _ hf hK
end
