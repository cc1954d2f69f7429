/-! The law's walk, 3 (written by law99h.py) -/
section
variable {p : Program} {l : Launch} {e : Env} {s : State} {m : MethodId} {args : Array Value} {below : List Frame} {meth : Method} {c : Code} {D : va_G} {cy : Nat → ClassId} {B : Nat} {H0 : Heap} {Z : Nat → Nat}
set_option maxHeartbeats 4000000 in
set_option maxRecDepth 100000 in
theorem tl_L_law_950 (X2 : gX p s m args meth c D cy B (gSt2 Z B H0) RL cL_law wsL_law 34) (hr : meth.sig.returnType = (some .boolean)) (hlx : l.stackTraces = false) (hH : ∀ q : Nat, q < B → s.heap[q]? = H0[q]?) (hne : ∀ x ∈ c.exceptionTable.toList, False) (hH0 : H0.size = B) {Q : State → Prop} : ∀ (M : gMem) (kc : Nat) (kn : Nat) (x2 : Option Nat) (x3 : Option Nat) (x4 : Int32) (x5 : Int32) (x6 : Int32) (x7 : Int32) (x10 : Option Nat) (x11 : Option Nat) (x12 : Option Nat) (x19 : Int32) (x20 : Int32) (x21 : Int32) (x23 : Int32) (x24 : Option Nat) (x25 : Int32) (x26 : Int32) (x30 : Int32) (x31 : Int32) (z : (gMem × Nat × Nat × Int32 × Int32) ⊕ ((gMem × Nat × Nat × Int32) ⊕ ((Nat ⊕ Int32) × gMem))), lp_L_law_950 Z M kc kn x2 x3 x4 x5 x6 x7 x10 x11 x12 x19 x20 x21 x23 x24 x25 x26 x30 x31 = some z → (Sum.elim (fun (q : gMem × Nat × Nat × Int32 × Int32) => gGo p l e rL_law s m args below meth c D cy B H0 34 q.2.1 q.2.2.1 Q 680 [(0, vR (some (Z 400))), (2, vR x2), (3, vR x3), (4, vI x4), (5, vI x5), (6, vI x6), (7, vI x7), (10, vR x10), (11, vR x11), (12, vR x12), (19, vI x19), (20, vI x20), (21, vI x21), (23, vI x23), (24, vR x24), (25, vI q.2.2.2.1), (26, vI q.2.2.2.2)] [] q.1) (Sum.elim (fun (q : gMem × Nat × Nat × Int32) => gGo p l e rL_law s m args below meth c D cy B H0 34 q.2.1 q.2.2.1 Q 59 [(0, vR (some (Z 400))), (2, vR x2), (3, vR x3), (4, vI x4), (5, vI x5), (6, vI x6), (7, vI q.2.2.2)] [] q.1) (fun (r : (Nat ⊕ Int32) × gMem) => Q = gMX below D cy B H0 args s 600086 7301442 (gzI r.1) r.2))) z → gGo p l e rL_law s m args below meth c D cy B H0 34 kc kn Q 950 [(0, vR (some (Z 400))), (2, vR x2), (3, vR x3), (4, vI x4), (5, vI x5), (6, vI x6), (7, vI x7), (10, vR x10), (11, vR x11), (12, vR x12), (19, vI x19), (20, vI x20), (21, vI x21), (23, vI x23), (24, vR x24), (25, vI x25), (26, vI x26), (30, vI x30), (31, vI x31)] [] M := by
  intro M kc kn x2 x3 x4 x5 x6 x7 x10 x11 x12 x19 x20 x21 x23 x24 x25 x26 x30 x31 z hf hK
  refine lp_ind (P := (fun (q : gMem × Nat × Nat × Int32 × Int32) (z : (gMem × Nat × Nat × Int32 × Int32) ⊕ ((gMem × Nat × Nat × Int32) ⊕ ((Nat ⊕ Int32) × gMem))) => (Sum.elim (fun (q : gMem × Nat × Nat × Int32 × Int32) => gGo p l e rL_law s m args below meth c D cy B H0 34 q.2.1 q.2.2.1 Q 680 [(0, vR (some (Z 400))), (2, vR x2), (3, vR x3), (4, vI x4), (5, vI x5), (6, vI x6), (7, vI x7), (10, vR x10), (11, vR x11), (12, vR x12), (19, vI x19), (20, vI x20), (21, vI x21), (23, vI x23), (24, vR x24), (25, vI q.2.2.2.1), (26, vI q.2.2.2.2)] [] q.1) (Sum.elim (fun (q : gMem × Nat × Nat × Int32) => gGo p l e rL_law s m args below meth c D cy B H0 34 q.2.1 q.2.2.1 Q 59 [(0, vR (some (Z 400))), (2, vR x2), (3, vR x3), (4, vI x4), (5, vI x5), (6, vI x6), (7, vI q.2.2.2)] [] q.1) (fun (r : (Nat ⊕ Int32) × gMem) => Q = gMX below D cy B H0 args s 600086 7301442 (gzI r.1) r.2))) z → gGo p l e rL_law s m args below meth c D cy B H0 34 q.2.1 q.2.2.1 Q 950 [(0, vR (some (Z 400))), (2, vR x2), (3, vR x3), (4, vI x4), (5, vI x5), (6, vI x6), (7, vI x7), (10, vR x10), (11, vR x11), (12, vR x12), (19, vI x19), (20, vI x20), (21, vI x21), (23, vI x23), (24, vR x24), (25, vI x25), (26, vI x26), (30, vI q.2.2.2.1), (31, vI q.2.2.2.2)] [] q.1)) (fun q z hq => ?_) _ _ hf hK
  intro hK
  obtain ⟨w, hw, hm⟩ := hq
  refine tb_L_law_950 X2 hr hlx hH hne hH0 _ _ _ _ _ _ _ _ _ _ _ _ _ _ _ _ _ _ _ _ _ w hw ?_
  cases w with
  | inl a => exact hm hK
  | inr b => cases hm; exact hK
set_option maxHeartbeats 4000000 in
set_option maxRecDepth 100000 in
theorem tb_L_law_903 (X2 : gX p s m args meth c D cy B (gSt2 Z B H0) RL cL_law wsL_law 34) (hr : meth.sig.returnType = (some .boolean)) (hlx : l.stackTraces = false) (hH : ∀ q : Nat, q < B → s.heap[q]? = H0[q]?) (hne : ∀ x ∈ c.exceptionTable.toList, False) (hH0 : H0.size = B) {Q : State → Prop} : ∀ (M : gMem) (kc : Nat) (kn : Nat) (x2 : Option Nat) (x3 : Option Nat) (x4 : Int32) (x5 : Int32) (x6 : Int32) (x7 : Int32) (x10 : Option Nat) (x11 : Option Nat) (x12 : Option Nat) (x19 : Int32) (x20 : Int32) (x21 : Int32) (x23 : Int32) (x24 : Option Nat) (x25 : Int32) (x26 : Int32) (x30 : Option Nat) (x31 : Int32) (x32 : Int32) (z : (gMem × Nat × Nat × Int32) ⊕ ((gMem × Nat × Nat × Int32 × Int32) ⊕ ((gMem × Nat × Nat × Int32) ⊕ ((Nat ⊕ Int32) × gMem)))), bb_L_law_903 Z M kc kn x2 x3 x4 x5 x6 x7 x10 x11 x12 x19 x20 x21 x23 x24 x25 x26 x30 x31 x32 = some z → (Sum.elim (fun (q : gMem × Nat × Nat × Int32) => gGo p l e rL_law s m args below meth c D cy B H0 34 q.2.1 q.2.2.1 Q 903 [(0, vR (some (Z 400))), (2, vR x2), (3, vR x3), (4, vI x4), (5, vI x5), (6, vI x6), (7, vI x7), (10, vR x10), (11, vR x11), (12, vR x12), (19, vI x19), (20, vI x20), (21, vI x21), (23, vI x23), (24, vR x24), (25, vI x25), (26, vI x26), (30, vR x30), (31, vI x31), (32, vI q.2.2.2)] [] q.1) (Sum.elim (fun (q : gMem × Nat × Nat × Int32 × Int32) => gGo p l e rL_law s m args below meth c D cy B H0 34 q.2.1 q.2.2.1 Q 680 [(0, vR (some (Z 400))), (2, vR x2), (3, vR x3), (4, vI x4), (5, vI x5), (6, vI x6), (7, vI x7), (10, vR x10), (11, vR x11), (12, vR x12), (19, vI x19), (20, vI x20), (21, vI x21), (23, vI x23), (24, vR x24), (25, vI q.2.2.2.1), (26, vI q.2.2.2.2)] [] q.1) (Sum.elim (fun (q : gMem × Nat × Nat × Int32) => gGo p l e rL_law s m args below meth c D cy B H0 34 q.2.1 q.2.2.1 Q 59 [(0, vR (some (Z 400))), (2, vR x2), (3, vR x3), (4, vI x4), (5, vI x5), (6, vI x6), (7, vI q.2.2.2)] [] q.1) (fun (r : (Nat ⊕ Int32) × gMem) => Q = gMX below D cy B H0 args s 600086 7301442 (gzI r.1) r.2)))) z → gGo p l e rL_law s m args below meth c D cy B H0 34 kc kn Q 903 [(0, vR (some (Z 400))), (2, vR x2), (3, vR x3), (4, vI x4), (5, vI x5), (6, vI x6), (7, vI x7), (10, vR x10), (11, vR x11), (12, vR x12), (19, vI x19), (20, vI x20), (21, vI x21), (23, vI x23), (24, vR x24), (25, vI x25), (26, vI x26), (30, vR x30), (31, vI x31), (32, vI x32)] [] M := by
  intro M kc kn x2 x3 x4 x5 x6 x7 x10 x11 x12 x19 x20 x21 x23 x24 x25 x26 x30 x31 x32 z hf hK
  unfold bb_L_law_903 at hf
  have X := gX_w X2
  refine g_iload X dL_law_903 rfl ?_
  refine g_iload X dL_law_905 rfl ?_
  refine g_icmp_ge (tgt := 944) X dL_law_907 (by decide) (fun hc => ?_) (fun hc => ?_)
  · have hf := ife_t hc hf
    refine g_iconst (v := (0 : Int32)) X dL_law_944 (by decide) ?_
    refine g_istore (lv' := [(30, vI (0 : Int32)), (0, vR (some (Z 400))), (2, vR x2), (3, vR x3), (4, vI x4), (5, vI x5), (6, vI x6), (7, vI x7), (10, vR x10), (11, vR x11), (12, vR x12), (19, vI x19), (20, vI x20), (21, vI x21), (23, vI x23), (24, vR x24), (25, vI x25), (26, vI x26), (31, vI x31), (32, vI x32)]) X dL_law_945 (by decide) rfl ?_
    refine g_iconst (v := (0 : Int32)) X dL_law_947 (by decide) ?_
    refine g_istore (lv' := [(31, vI (0 : Int32)), (30, vI (0 : Int32)), (0, vR (some (Z 400))), (2, vR x2), (3, vR x3), (4, vI x4), (5, vI x5), (6, vI x6), (7, vI x7), (10, vR x10), (11, vR x11), (12, vR x12), (19, vI x19), (20, vI x20), (21, vI x21), (23, vI x23), (24, vR x24), (25, vI x25), (26, vI x26), (32, vI x32)]) X dL_law_948 (by decide) rfl ?_
    obtain ⟨w247, hw247, hz247⟩ := oI_e hf
    subst hz247
    have hf := hw247
    refine g_sub (lvsub_of _ _ [2, 3, 4, 5, 6, 7, 8, 9, 10, 11, 12, 13, 14, 15, 16, 17, 18, 1, 0] rfl) ?_
    exact tl_L_law_950 X2 hr hlx hH hne hH0 _ _ _ _ _ _ _ _ _ _ _ _ _ _ _ _ _ _ _ _ _ _ hf hK
  · have hf := ife_f hc hf
    refine g_aload X dL_law_910 rfl ?_
    refine g_iload X dL_law_912 rfl ?_
    obtain ⟨a248, ha248, hf⟩ := dr_e hf
    obtain ⟨hT249, hf⟩ := ck_e hf
    obtain ⟨hg250, hf⟩ := ck_e hf
    refine g_iald X dL_law_914 ha248 hT249 hg250 ?_
    refine g_istore (lv' := [(33, vI (mI M a248 x32.toNatClampNeg)), (0, vR (some (Z 400))), (2, vR x2), (3, vR x3), (4, vI x4), (5, vI x5), (6, vI x6), (7, vI x7), (10, vR x10), (11, vR x11), (12, vR x12), (19, vI x19), (20, vI x20), (21, vI x21), (23, vI x23), (24, vR x24), (25, vI x25), (26, vI x26), (30, vR x30), (31, vI x31), (32, vI x32)]) X dL_law_915 (by decide) rfl ?_
    refine g_aload_n X dL_law_917 rfl rfl ?_
    refine g_iload X dL_law_918 rfl ?_
    refine g_iload X dL_law_920 rfl ?_
    obtain ⟨a252, ha252, hf⟩ := dr_e hf
    obtain ⟨hT253, hf⟩ := ck_e hf
    obtain ⟨hg254, hf⟩ := ck_e hf
    rcases bx_e hf with ⟨e251, M251, hq251, hf⟩ | ⟨r251, M251, hq251, hf⟩
    · obtain ⟨w255, hw255, hz255⟩ := oI_e hf
      subst hz255
      have hf := hw255
      obtain ⟨w256, hw256, hz256⟩ := oI_e hf
      subst hz256
      have hf := hw256
      obtain ⟨w257, hw257, hz257⟩ := oI_e hf
      subst hz257
      have hf := hw257
      cases hf
      refine g_eqQ hK ?_
      exact g_callTV (ci := 9) (b := a252) (As := [vI x26, vI (mI M a248 x32.toNatClampNeg)]) (st := []) (M1 := M251) X2 hne (m_X11_fisher l hlx hH0 hq251) (cwV 2 X.2.2.1 gL_law_X11_fisher rfl rfl rfl (by decide +kernel) ⟨Nat.le_of_ble_eq_true rfl, Nat.le_of_ble_eq_true rfl⟩) rfl rfl ha252 hT253 (by decide) rfl (Nat.le_of_ble_eq_true rfl) dL_law_922 ⟨hg254.1, hg254.2⟩ hg254.1 hg254.2
    refine g_callXV (ci := 9) (b := a252) (As := [vI x26, vI (mI M a248 x32.toNatClampNeg)]) (st := []) (v := some (vI r251)) (M1 := M251) X2 (m_X11_fisher l hlx hH0 hq251) (cwV 2 X.2.2.1 gL_law_X11_fisher rfl rfl rfl (by decide +kernel) ⟨Nat.le_of_ble_eq_true rfl, Nat.le_of_ble_eq_true rfl⟩) rfl rfl ha252 hT253 (by decide) rfl (Nat.le_of_ble_eq_true rfl) dL_law_922 ⟨hg254.1, hg254.2⟩ ?_
    refine g_aload X dL_law_925 rfl ?_
    refine g_iload X dL_law_927 rfl ?_
    obtain ⟨a258, ha258, hf⟩ := dr_e hf
    obtain ⟨hT259, hf⟩ := ck_e hf
    obtain ⟨hg260, hf⟩ := ck_e hf
    refine g_aaldA X dL_law_929 ha258 hT259 hg260 ?_
    refine g_iload X dL_law_930 rfl ?_
    obtain ⟨a261, ha261, hf⟩ := dr_e hf
    obtain ⟨hT262, hf⟩ := ck_e hf
    obtain ⟨hg263, hf⟩ := ck_e hf
    refine g_iald X dL_law_932 ha261 hT262 hg263 ?_
    refine g_icmp_eq (tgt := 938) X dL_law_933 (by decide) (fun hc => ?_) (fun hc => ?_)
    · have hf := ife_t hc hf
      refine g_iinc (v := (1 : Int32)) (lv' := [(32, vI (x32 + (1 : Int32))), (33, vI (mI M a248 x32.toNatClampNeg)), (0, vR (some (Z 400))), (2, vR x2), (3, vR x3), (4, vI x4), (5, vI x5), (6, vI x6), (7, vI x7), (10, vR x10), (11, vR x11), (12, vR x12), (19, vI x19), (20, vI x20), (21, vI x21), (23, vI x23), (24, vR x24), (25, vI x25), (26, vI x26), (30, vR x30), (31, vI x31)]) X dL_law_938 rfl (by decide) (by decide) rfl ?_
      refine g_goto (tgt := 903) X dL_law_941 (by decide) ?_
      cases hf
      refine g_sub (lvsub_of _ _ [2, 3, 4, 5, 6, 7, 8, 9, 10, 11, 12, 13, 14, 15, 16, 17, 18, 19, 20, 0] rfl) ?_
      exact hK
    · have hf := ife_f hc hf
      refine g_iconst (v := (0 : Int32)) X dL_law_936 (by decide) ?_
      obtain ⟨hg264, hf⟩ := ck_e hf
      obtain ⟨w265, hw265, hz265⟩ := oI_e hf
      subst hz265
      have hf := hw265
      obtain ⟨w266, hw266, hz266⟩ := oI_e hf
      subst hz266
      have hf := hw266
      obtain ⟨w267, hw267, hz267⟩ := oI_e hf
      subst hz267
      have hf := hw267
      cases hf
      refine g_eqQ hK ?_
      refine g_wide (k' := 600086) (n' := 7301442) hg264.1 hg264.2 ?_
      refine g_xret ?_
      exact g_zret X hr (gnb (Or.inl rfl)) dL_law_937
set_option maxHeartbeats 4000000 in
set_option maxRecDepth 100000 in
theorem tl_L_law_903 (X2 : gX p s m args meth c D cy B (gSt2 Z B H0) RL cL_law wsL_law 34) (hr : meth.sig.returnType = (some .boolean)) (hlx : l.stackTraces = false) (hH : ∀ q : Nat, q < B → s.heap[q]? = H0[q]?) (hne : ∀ x ∈ c.exceptionTable.toList, False) (hH0 : H0.size = B) {Q : State → Prop} : ∀ (M : gMem) (kc : Nat) (kn : Nat) (x2 : Option Nat) (x3 : Option Nat) (x4 : Int32) (x5 : Int32) (x6 : Int32) (x7 : Int32) (x10 : Option Nat) (x11 : Option Nat) (x12 : Option Nat) (x19 : Int32) (x20 : Int32) (x21 : Int32) (x23 : Int32) (x24 : Option Nat) (x25 : Int32) (x26 : Int32) (x30 : Option Nat) (x31 : Int32) (x32 : Int32) (z : (gMem × Nat × Nat × Int32 × Int32) ⊕ ((gMem × Nat × Nat × Int32) ⊕ ((Nat ⊕ Int32) × gMem))), lp_L_law_903 Z M kc kn x2 x3 x4 x5 x6 x7 x10 x11 x12 x19 x20 x21 x23 x24 x25 x26 x30 x31 x32 = some z → (Sum.elim (fun (q : gMem × Nat × Nat × Int32 × Int32) => gGo p l e rL_law s m args below meth c D cy B H0 34 q.2.1 q.2.2.1 Q 680 [(0, vR (some (Z 400))), (2, vR x2), (3, vR x3), (4, vI x4), (5, vI x5), (6, vI x6), (7, vI x7), (10, vR x10), (11, vR x11), (12, vR x12), (19, vI x19), (20, vI x20), (21, vI x21), (23, vI x23), (24, vR x24), (25, vI q.2.2.2.1), (26, vI q.2.2.2.2)] [] q.1) (Sum.elim (fun (q : gMem × Nat × Nat × Int32) => gGo p l e rL_law s m args below meth c D cy B H0 34 q.2.1 q.2.2.1 Q 59 [(0, vR (some (Z 400))), (2, vR x2), (3, vR x3), (4, vI x4), (5, vI x5), (6, vI x6), (7, vI q.2.2.2)] [] q.1) (fun (r : (Nat ⊕ Int32) × gMem) => Q = gMX below D cy B H0 args s 600086 7301442 (gzI r.1) r.2))) z → gGo p l e rL_law s m args below meth c D cy B H0 34 kc kn Q 903 [(0, vR (some (Z 400))), (2, vR x2), (3, vR x3), (4, vI x4), (5, vI x5), (6, vI x6), (7, vI x7), (10, vR x10), (11, vR x11), (12, vR x12), (19, vI x19), (20, vI x20), (21, vI x21), (23, vI x23), (24, vR x24), (25, vI x25), (26, vI x26), (30, vR x30), (31, vI x31), (32, vI x32)] [] M := by
  intro M kc kn x2 x3 x4 x5 x6 x7 x10 x11 x12 x19 x20 x21 x23 x24 x25 x26 x30 x31 x32 z hf hK
  refine lp_ind (P := (fun (q : gMem × Nat × Nat × Int32) (z : (gMem × Nat × Nat × Int32 × Int32) ⊕ ((gMem × Nat × Nat × Int32) ⊕ ((Nat ⊕ Int32) × gMem))) => (Sum.elim (fun (q : gMem × Nat × Nat × Int32 × Int32) => gGo p l e rL_law s m args below meth c D cy B H0 34 q.2.1 q.2.2.1 Q 680 [(0, vR (some (Z 400))), (2, vR x2), (3, vR x3), (4, vI x4), (5, vI x5), (6, vI x6), (7, vI x7), (10, vR x10), (11, vR x11), (12, vR x12), (19, vI x19), (20, vI x20), (21, vI x21), (23, vI x23), (24, vR x24), (25, vI q.2.2.2.1), (26, vI q.2.2.2.2)] [] q.1) (Sum.elim (fun (q : gMem × Nat × Nat × Int32) => gGo p l e rL_law s m args below meth c D cy B H0 34 q.2.1 q.2.2.1 Q 59 [(0, vR (some (Z 400))), (2, vR x2), (3, vR x3), (4, vI x4), (5, vI x5), (6, vI x6), (7, vI q.2.2.2)] [] q.1) (fun (r : (Nat ⊕ Int32) × gMem) => Q = gMX below D cy B H0 args s 600086 7301442 (gzI r.1) r.2))) z → gGo p l e rL_law s m args below meth c D cy B H0 34 q.2.1 q.2.2.1 Q 903 [(0, vR (some (Z 400))), (2, vR x2), (3, vR x3), (4, vI x4), (5, vI x5), (6, vI x6), (7, vI x7), (10, vR x10), (11, vR x11), (12, vR x12), (19, vI x19), (20, vI x20), (21, vI x21), (23, vI x23), (24, vR x24), (25, vI x25), (26, vI x26), (30, vR x30), (31, vI x31), (32, vI q.2.2.2)] [] q.1)) (fun q z hq => ?_) _ _ hf hK
  intro hK
  obtain ⟨w, hw, hm⟩ := hq
  refine tb_L_law_903 X2 hr hlx hH hne hH0 _ _ _ _ _ _ _ _ _ _ _ _ _ _ _ _ _ _ _ _ _ _ w hw ?_
  cases w with
  | inl a => exact hm hK
  | inr b => cases hm; exact hK
set_option maxHeartbeats 4000000 in
set_option maxRecDepth 100000 in
theorem t_L_law_871 (X2 : gX p s m args meth c D cy B (gSt2 Z B H0) RL cL_law wsL_law 34) (hr : meth.sig.returnType = (some .boolean)) (hlx : l.stackTraces = false) (hH : ∀ q : Nat, q < B → s.heap[q]? = H0[q]?) (hne : ∀ x ∈ c.exceptionTable.toList, False) (hH0 : H0.size = B) {Q : State → Prop} : ∀ (M : gMem) (kc : Nat) (kn : Nat) (z : (Nat ⊕ Int32) × gMem), b_L_law_871 Z M kc kn = some z → (fun (r : (Nat ⊕ Int32) × gMem) => Q = gMX below D cy B H0 args s 600086 7301442 (gzI r.1) r.2) z → gGo p l e rL_law s m args below meth c D cy B H0 34 kc kn Q 871 [] [] M := by
  intro M kc kn z hf hK
  unfold b_L_law_871 at hf
  have X := gX_w X2
  refine g_iconst (v := (0 : Int32)) X dL_law_871 (by decide) ?_
  obtain ⟨hg268, hf⟩ := ck_e hf
  cases hf
  refine g_eqQ hK ?_
  refine g_wide (k' := 600086) (n' := 7301442) hg268.1 hg268.2 ?_
  refine g_xret ?_
  exact g_zret X hr (gnb (Or.inl rfl)) dL_law_872
set_option maxHeartbeats 4000000 in
set_option maxRecDepth 100000 in
theorem t_L_law_828 (X2 : gX p s m args meth c D cy B (gSt2 Z B H0) RL cL_law wsL_law 34) (hr : meth.sig.returnType = (some .boolean)) (hlx : l.stackTraces = false) (hH : ∀ q : Nat, q < B → s.heap[q]? = H0[q]?) (hne : ∀ x ∈ c.exceptionTable.toList, False) (hH0 : H0.size = B) {Q : State → Prop} : ∀ (M : gMem) (kc : Nat) (kn : Nat) (x2 : Option Nat) (x3 : Option Nat) (x4 : Int32) (x5 : Int32) (x6 : Int32) (x7 : Int32) (x10 : Option Nat) (x11 : Option Nat) (x12 : Option Nat) (x19 : Int32) (x20 : Int32) (x21 : Int32) (x23 : Int32) (x24 : Option Nat) (x25 : Int32) (x26 : Int32) (x29 : Int32) (z : (gMem × Nat × Nat × Int32 × Int32) ⊕ ((gMem × Nat × Nat × Int32) ⊕ ((Nat ⊕ Int32) × gMem))), b_L_law_828 Z M kc kn x2 x3 x4 x5 x6 x7 x10 x11 x12 x19 x20 x21 x23 x24 x25 x26 x29 = some z → (Sum.elim (fun (q : gMem × Nat × Nat × Int32 × Int32) => gGo p l e rL_law s m args below meth c D cy B H0 34 q.2.1 q.2.2.1 Q 680 [(0, vR (some (Z 400))), (2, vR x2), (3, vR x3), (4, vI x4), (5, vI x5), (6, vI x6), (7, vI x7), (10, vR x10), (11, vR x11), (12, vR x12), (19, vI x19), (20, vI x20), (21, vI x21), (23, vI x23), (24, vR x24), (25, vI q.2.2.2.1), (26, vI q.2.2.2.2)] [] q.1) (Sum.elim (fun (q : gMem × Nat × Nat × Int32) => gGo p l e rL_law s m args below meth c D cy B H0 34 q.2.1 q.2.2.1 Q 59 [(0, vR (some (Z 400))), (2, vR x2), (3, vR x3), (4, vI x4), (5, vI x5), (6, vI x6), (7, vI q.2.2.2)] [] q.1) (fun (r : (Nat ⊕ Int32) × gMem) => Q = gMX below D cy B H0 args s 600086 7301442 (gzI r.1) r.2))) z → gGo p l e rL_law s m args below meth c D cy B H0 34 kc kn Q 828 [(0, vR (some (Z 400))), (2, vR x2), (3, vR x3), (4, vI x4), (5, vI x5), (6, vI x6), (7, vI x7), (10, vR x10), (11, vR x11), (12, vR x12), (19, vI x19), (20, vI x20), (21, vI x21), (23, vI x23), (24, vR x24), (25, vI x25), (26, vI x26), (29, vI x29)] [] M := by
  intro M kc kn x2 x3 x4 x5 x6 x7 x10 x11 x12 x19 x20 x21 x23 x24 x25 x26 x29 z hf hK
  unfold b_L_law_828 at hf
  have X := gX_w X2
  refine g_iload X dL_law_828 rfl ?_
  refine g_if_lt (tgt := 871) X dL_law_830 (by decide) (fun hc => ?_) (fun hc => ?_)
  · have hf := ife_t hc hf
    obtain ⟨w269, hw269, hz269⟩ := oI_e hf
    subst hz269
    have hf := hw269
    obtain ⟨w270, hw270, hz270⟩ := oI_e hf
    subst hz270
    have hf := hw270
    refine g_sub (lvsub_of _ _ [] rfl) ?_
    exact t_L_law_871 X2 hr hlx hH hne hH0 _ _ _ _ hf hK
  · have hf := ife_f hc hf
    refine g_iload X dL_law_833 rfl ?_
    refine g_iconst (v := (1 : Int32)) X dL_law_835 (by decide) ?_
    refine g_icmp_gt (tgt := 871) X dL_law_836 (by decide) (fun hc => ?_) (fun hc => ?_)
    · have hf := ife_t hc hf
      obtain ⟨w271, hw271, hz271⟩ := oI_e hf
      subst hz271
      have hf := hw271
      obtain ⟨w272, hw272, hz272⟩ := oI_e hf
      subst hz272
      have hf := hw272
      refine g_sub (lvsub_of _ _ [] rfl) ?_
      exact t_L_law_871 X2 hr hlx hH hne hH0 _ _ _ _ hf hK
    · have hf := ife_f hc hf
      refine g_aload_n X dL_law_839 rfl rfl ?_
      refine g_iload X dL_law_840 rfl ?_
      refine g_iconst (v := (0 : Int32)) X dL_law_842 (by decide) ?_
      obtain ⟨a274, ha274, hf⟩ := dr_e hf
      obtain ⟨hT275, hf⟩ := ck_e hf
      obtain ⟨hg276, hf⟩ := ck_e hf
      rcases bx_e hf with ⟨e273, M273, hq273, hf⟩ | ⟨r273, M273, hq273, hf⟩
      · obtain ⟨w277, hw277, hz277⟩ := oI_e hf
        subst hz277
        have hf := hw277
        obtain ⟨w278, hw278, hz278⟩ := oI_e hf
        subst hz278
        have hf := hw278
        cases hf
        refine g_eqQ hK ?_
        exact g_callTV (ci := 9) (b := a274) (As := [vI x26, vI (0 : Int32)]) (st := []) (M1 := M273) X2 hne (m_X11_fisher l hlx hH0 hq273) (cwV 2 X.2.2.1 gL_law_X11_fisher rfl rfl rfl (by decide +kernel) ⟨Nat.le_of_ble_eq_true rfl, Nat.le_of_ble_eq_true rfl⟩) rfl rfl ha274 hT275 (by decide) rfl (Nat.le_of_ble_eq_true rfl) dL_law_843 ⟨hg276.1, hg276.2⟩ hg276.1 hg276.2
      refine g_callXV (ci := 9) (b := a274) (As := [vI x26, vI (0 : Int32)]) (st := []) (v := some (vI r273)) (M1 := M273) X2 (m_X11_fisher l hlx hH0 hq273) (cwV 2 X.2.2.1 gL_law_X11_fisher rfl rfl rfl (by decide +kernel) ⟨Nat.le_of_ble_eq_true rfl, Nat.le_of_ble_eq_true rfl⟩) rfl rfl ha274 hT275 (by decide) rfl (Nat.le_of_ble_eq_true rfl) dL_law_843 ⟨hg276.1, hg276.2⟩ ?_
      refine g_aload X dL_law_846 rfl ?_
      refine g_iload X dL_law_848 rfl ?_
      obtain ⟨a279, ha279, hf⟩ := dr_e hf
      obtain ⟨hT280, hf⟩ := ck_e hf
      obtain ⟨hg281, hf⟩ := ck_e hf
      refine g_aaldA X dL_law_850 ha279 hT280 hg281 ?_
      refine g_iconst (v := (0 : Int32)) X dL_law_851 (by decide) ?_
      obtain ⟨a282, ha282, hf⟩ := dr_e hf
      obtain ⟨hT283, hf⟩ := ck_e hf
      obtain ⟨hg284, hf⟩ := ck_e hf
      refine g_iald X dL_law_852 ha282 hT283 hg284 ?_
      refine g_iload X dL_law_853 rfl ?_
      refine g_iadd X dL_law_855 ?_
      refine g_icmp_ne (tgt := 871) X dL_law_856 (by decide) (fun hc => ?_) (fun hc => ?_)
      · have hf := ife_f hc hf
        obtain ⟨w285, hw285, hz285⟩ := oI_e hf
        subst hz285
        have hf := hw285
        obtain ⟨w286, hw286, hz286⟩ := oI_e hf
        subst hz286
        have hf := hw286
        refine g_sub (lvsub_of _ _ [] rfl) ?_
        exact t_L_law_871 X2 hr hlx hH hne hH0 _ _ _ _ hf hK
      · have hf := ife_t hc hf
        refine g_aload_n X dL_law_859 rfl rfl ?_
        refine g_iload X dL_law_860 rfl ?_
        refine g_iconst (v := (0 : Int32)) X dL_law_862 (by decide) ?_
        obtain ⟨hT288, hf⟩ := ck_e hf
        obtain ⟨hg289, hf⟩ := ck_e hf
        rcases bx_e hf with ⟨e287, M287, hq287, hf⟩ | ⟨r287, M287, hq287, hf⟩
        · obtain ⟨w290, hw290, hz290⟩ := oI_e hf
          subst hz290
          have hf := hw290
          obtain ⟨w291, hw291, hz291⟩ := oI_e hf
          subst hz291
          have hf := hw291
          cases hf
          refine g_eqQ hK ?_
          exact g_callTV (ci := 9) (b := a274) (As := [vI x26, vI (0 : Int32)]) (st := []) (M1 := M287) X2 hne (m_X11_fisher l hlx hH0 hq287) (cwV 2 X.2.2.1 gL_law_X11_fisher rfl rfl rfl (by decide +kernel) ⟨Nat.le_of_ble_eq_true rfl, Nat.le_of_ble_eq_true rfl⟩) rfl rfl ha274 hT288 (by decide) rfl (Nat.le_of_ble_eq_true rfl) dL_law_863 ⟨hg289.1, hg289.2⟩ hg289.1 hg289.2
        refine g_callXV (ci := 9) (b := a274) (As := [vI x26, vI (0 : Int32)]) (st := []) (v := some (vI r287)) (M1 := M287) X2 (m_X11_fisher l hlx hH0 hq287) (cwV 2 X.2.2.1 gL_law_X11_fisher rfl rfl rfl (by decide +kernel) ⟨Nat.le_of_ble_eq_true rfl, Nat.le_of_ble_eq_true rfl⟩) rfl rfl ha274 hT288 (by decide) rfl (Nat.le_of_ble_eq_true rfl) dL_law_863 ⟨hg289.1, hg289.2⟩ ?_
        refine g_bipush (v := (6 : Int32)) X dL_law_866 (by decide) ?_
        refine g_icmp_le (tgt := 873) X dL_law_868 (by decide) (fun hc => ?_) (fun hc => ?_)
        · have hf := ife_t hc hf
          refine g_iconst (v := (4 : Int32)) X dL_law_873 (by decide) ?_
          obtain ⟨hg292, hf⟩ := ck_e hf
          refine g_newa (at' := .int) (t0 := 0) X k_L_law_acint (by exact Or.inl ⟨rfl, rfl⟩) (by decide) (by decide) ⟨hg292.1, hg292.2⟩ dL_law_874 ?_
          obtain ⟨M293, hM293, hf⟩ := lw_e hf
          rw [← hM293]
          refine g_dup X dL_law_876 rfl ?_
          refine g_iconst (v := (0 : Int32)) X dL_law_877 (by decide) ?_
          refine g_iconst (v := (1 : Int32)) X dL_law_878 (by decide) ?_
          obtain ⟨hT294, hf⟩ := ck_e hf
          obtain ⟨hg295, hf⟩ := ck_e hf
          refine g_iast X dL_law_879 rfl hT294 hg295 ?_
          obtain ⟨M296, hM296, hf⟩ := lw_e hf
          rw [← hM296]
          have hT297 : mT M296 (mN M287) = 20 := by rw [hM296]; exact hT294
          refine g_dup X dL_law_880 rfl ?_
          refine g_iconst (v := (1 : Int32)) X dL_law_881 (by decide) ?_
          refine g_iconst (v := (2 : Int32)) X dL_law_882 (by decide) ?_
          obtain ⟨hg298, hf⟩ := ck_e hf
          refine g_iast X dL_law_883 rfl hT297 hg298 ?_
          obtain ⟨M299, hM299, hf⟩ := lw_e hf
          rw [← hM299]
          have hT300 : mT M299 (mN M287) = 20 := by rw [hM299]; exact hT297
          refine g_dup X dL_law_884 rfl ?_
          refine g_iconst (v := (2 : Int32)) X dL_law_885 (by decide) ?_
          refine g_iconst (v := (3 : Int32)) X dL_law_886 (by decide) ?_
          obtain ⟨hg301, hf⟩ := ck_e hf
          refine g_iast X dL_law_887 rfl hT300 hg301 ?_
          obtain ⟨M302, hM302, hf⟩ := lw_e hf
          rw [← hM302]
          have hT303 : mT M302 (mN M287) = 20 := by rw [hM302]; exact hT300
          refine g_dup X dL_law_888 rfl ?_
          refine g_iconst (v := (3 : Int32)) X dL_law_889 (by decide) ?_
          refine g_bipush (v := (8 : Int32)) X dL_law_890 (by decide) ?_
          obtain ⟨hg304, hf⟩ := ck_e hf
          refine g_iast X dL_law_892 rfl hT303 hg304 ?_
          obtain ⟨M305, hM305, hf⟩ := lw_e hf
          rw [← hM305]
          have hT306 : mT M305 (mN M287) = 20 := by rw [hM305]; exact hT303
          refine g_astore (lv' := [(30, vR (some (mN M287))), (0, vR (some (Z 400))), (2, vR x2), (3, vR x3), (4, vI x4), (5, vI x5), (6, vI x6), (7, vI x7), (10, vR x10), (11, vR x11), (12, vR x12), (19, vI x19), (20, vI x20), (21, vI x21), (23, vI x23), (24, vR x24), (25, vI x25), (26, vI x26), (29, vI x29)]) X dL_law_893 (by decide) rfl ?_
          refine g_aload X dL_law_895 rfl ?_
          refine g_alen (t0 := 0) X dL_law_897 rfl hT306 (by decide) rfl ?_
          refine g_istore (lv' := [(31, vI (Int32.ofNat (mL M305 (mN M287)))), (30, vR (some (mN M287))), (0, vR (some (Z 400))), (2, vR x2), (3, vR x3), (4, vI x4), (5, vI x5), (6, vI x6), (7, vI x7), (10, vR x10), (11, vR x11), (12, vR x12), (19, vI x19), (20, vI x20), (21, vI x21), (23, vI x23), (24, vR x24), (25, vI x25), (26, vI x26), (29, vI x29)]) X dL_law_898 (by decide) rfl ?_
          refine g_iconst (v := (0 : Int32)) X dL_law_900 (by decide) ?_
          refine g_istore (lv' := [(32, vI (0 : Int32)), (31, vI (Int32.ofNat (mL M305 (mN M287)))), (30, vR (some (mN M287))), (0, vR (some (Z 400))), (2, vR x2), (3, vR x3), (4, vI x4), (5, vI x5), (6, vI x6), (7, vI x7), (10, vR x10), (11, vR x11), (12, vR x12), (19, vI x19), (20, vI x20), (21, vI x21), (23, vI x23), (24, vR x24), (25, vI x25), (26, vI x26), (29, vI x29)]) X dL_law_901 (by decide) rfl ?_
          refine g_sub (lvsub_of _ _ [3, 4, 5, 6, 7, 8, 9, 10, 11, 12, 13, 14, 15, 16, 17, 18, 19, 2, 1, 0] rfl) ?_
          exact tl_L_law_903 X2 hr hlx hH hne hH0 _ _ _ _ _ _ _ _ _ _ _ _ _ _ _ _ _ _ _ _ _ _ _ hf hK
        · have hf := ife_f hc hf
          obtain ⟨w307, hw307, hz307⟩ := oI_e hf
          subst hz307
          have hf := hw307
          obtain ⟨w308, hw308, hz308⟩ := oI_e hf
          subst hz308
          have hf := hw308
          refine g_sub (lvsub_of _ _ [] rfl) ?_
          exact t_L_law_871 X2 hr hlx hH hne hH0 _ _ _ _ hf hK
set_option maxHeartbeats 4000000 in
set_option maxRecDepth 100000 in
theorem t_L_law_761 (X2 : gX p s m args meth c D cy B (gSt2 Z B H0) RL cL_law wsL_law 34) (hr : meth.sig.returnType = (some .boolean)) (hlx : l.stackTraces = false) (hH : ∀ q : Nat, q < B → s.heap[q]? = H0[q]?) (hne : ∀ x ∈ c.exceptionTable.toList, False) (hH0 : H0.size = B) {Q : State → Prop} : ∀ (M : gMem) (kc : Nat) (kn : Nat) (x2 : Option Nat) (x3 : Option Nat) (x4 : Int32) (x5 : Int32) (x6 : Int32) (x7 : Int32) (x10 : Option Nat) (x11 : Option Nat) (x12 : Option Nat) (x19 : Int32) (x20 : Int32) (x21 : Int32) (x23 : Int32) (x24 : Option Nat) (x25 : Int32) (x26 : Int32) (x27 : Int32) (x28 : Int32) (x29 : Int32) (z : (gMem × Nat × Nat × Int32 × Int32) ⊕ ((gMem × Nat × Nat × Int32) ⊕ ((Nat ⊕ Int32) × gMem))), b_L_law_761 Z M kc kn x2 x3 x4 x5 x6 x7 x10 x11 x12 x19 x20 x21 x23 x24 x25 x26 x27 x28 x29 = some z → (Sum.elim (fun (q : gMem × Nat × Nat × Int32 × Int32) => gGo p l e rL_law s m args below meth c D cy B H0 34 q.2.1 q.2.2.1 Q 680 [(0, vR (some (Z 400))), (2, vR x2), (3, vR x3), (4, vI x4), (5, vI x5), (6, vI x6), (7, vI x7), (10, vR x10), (11, vR x11), (12, vR x12), (19, vI x19), (20, vI x20), (21, vI x21), (23, vI x23), (24, vR x24), (25, vI q.2.2.2.1), (26, vI q.2.2.2.2)] [] q.1) (Sum.elim (fun (q : gMem × Nat × Nat × Int32) => gGo p l e rL_law s m args below meth c D cy B H0 34 q.2.1 q.2.2.1 Q 59 [(0, vR (some (Z 400))), (2, vR x2), (3, vR x3), (4, vI x4), (5, vI x5), (6, vI x6), (7, vI q.2.2.2)] [] q.1) (fun (r : (Nat ⊕ Int32) × gMem) => Q = gMX below D cy B H0 args s 600086 7301442 (gzI r.1) r.2))) z → gGo p l e rL_law s m args below meth c D cy B H0 34 kc kn Q 761 [(0, vR (some (Z 400))), (2, vR x2), (3, vR x3), (4, vI x4), (5, vI x5), (6, vI x6), (7, vI x7), (10, vR x10), (11, vR x11), (12, vR x12), (19, vI x19), (20, vI x20), (21, vI x21), (23, vI x23), (24, vR x24), (25, vI x25), (26, vI x26), (27, vI x27), (28, vI x28), (29, vI x29)] [] M := by
  intro M kc kn x2 x3 x4 x5 x6 x7 x10 x11 x12 x19 x20 x21 x23 x24 x25 x26 x27 x28 x29 z hf hK
  unfold b_L_law_761 at hf
  have X := gX_w X2
  refine g_aload_n X dL_law_761 rfl rfl ?_
  refine g_iload X dL_law_762 rfl ?_
  refine g_iconst (v := (4 : Int32)) X dL_law_764 (by decide) ?_
  obtain ⟨a310, ha310, hf⟩ := dr_e hf
  obtain ⟨hT311, hf⟩ := ck_e hf
  obtain ⟨hg312, hf⟩ := ck_e hf
  rcases bx_e hf with ⟨e309, M309, hq309, hf⟩ | ⟨r309, M309, hq309, hf⟩
  · obtain ⟨w313, hw313, hz313⟩ := oI_e hf
    subst hz313
    have hf := hw313
    obtain ⟨w314, hw314, hz314⟩ := oI_e hf
    subst hz314
    have hf := hw314
    cases hf
    refine g_eqQ hK ?_
    exact g_callTV (ci := 9) (b := a310) (As := [vI x26, vI (4 : Int32)]) (st := []) (M1 := M309) X2 hne (m_X11_fisher l hlx hH0 hq309) (cwV 2 X.2.2.1 gL_law_X11_fisher rfl rfl rfl (by decide +kernel) ⟨Nat.le_of_ble_eq_true rfl, Nat.le_of_ble_eq_true rfl⟩) rfl rfl ha310 hT311 (by decide) rfl (Nat.le_of_ble_eq_true rfl) dL_law_765 ⟨hg312.1, hg312.2⟩ hg312.1 hg312.2
  refine g_callXV (ci := 9) (b := a310) (As := [vI x26, vI (4 : Int32)]) (st := []) (v := some (vI r309)) (M1 := M309) X2 (m_X11_fisher l hlx hH0 hq309) (cwV 2 X.2.2.1 gL_law_X11_fisher rfl rfl rfl (by decide +kernel) ⟨Nat.le_of_ble_eq_true rfl, Nat.le_of_ble_eq_true rfl⟩) rfl rfl ha310 hT311 (by decide) rfl (Nat.le_of_ble_eq_true rfl) dL_law_765 ⟨hg312.1, hg312.2⟩ ?_
  refine g_aload X dL_law_768 rfl ?_
  refine g_iload X dL_law_770 rfl ?_
  obtain ⟨a315, ha315, hf⟩ := dr_e hf
  obtain ⟨hT316, hf⟩ := ck_e hf
  obtain ⟨hg317, hf⟩ := ck_e hf
  refine g_aaldA X dL_law_772 ha315 hT316 hg317 ?_
  refine g_iconst (v := (4 : Int32)) X dL_law_773 (by decide) ?_
  obtain ⟨a318, ha318, hf⟩ := dr_e hf
  obtain ⟨hT319, hf⟩ := ck_e hf
  obtain ⟨hg320, hf⟩ := ck_e hf
  refine g_iald X dL_law_774 ha318 hT319 hg320 ?_
  refine g_aload_n X dL_law_775 rfl rfl ?_
  refine g_iload X dL_law_776 rfl ?_
  refine g_iconst (v := (5 : Int32)) X dL_law_778 (by decide) ?_
  obtain ⟨hT322, hf⟩ := ck_e hf
  obtain ⟨hg323, hf⟩ := ck_e hf
  rcases bx_e hf with ⟨e321, M321, hq321, hf⟩ | ⟨r321, M321, hq321, hf⟩
  · obtain ⟨w324, hw324, hz324⟩ := oI_e hf
    subst hz324
    have hf := hw324
    obtain ⟨w325, hw325, hz325⟩ := oI_e hf
    subst hz325
    have hf := hw325
    cases hf
    refine g_eqQ hK ?_
    exact g_callTV (ci := 9) (b := a310) (As := [vI x26, vI (5 : Int32)]) (st := [vI (mI M309 a318 ((4 : Int32)).toNatClampNeg), vI r309]) (M1 := M321) X2 hne (m_X11_fisher l hlx hH0 hq321) (cwV 2 X.2.2.1 gL_law_X11_fisher rfl rfl rfl (by decide +kernel) ⟨Nat.le_of_ble_eq_true rfl, Nat.le_of_ble_eq_true rfl⟩) rfl rfl ha310 hT322 (by decide) rfl (Nat.le_of_ble_eq_true rfl) dL_law_779 ⟨hg323.1, hg323.2⟩ hg323.1 hg323.2
  refine g_callXV (ci := 9) (b := a310) (As := [vI x26, vI (5 : Int32)]) (st := [vI (mI M309 a318 ((4 : Int32)).toNatClampNeg), vI r309]) (v := some (vI r321)) (M1 := M321) X2 (m_X11_fisher l hlx hH0 hq321) (cwV 2 X.2.2.1 gL_law_X11_fisher rfl rfl rfl (by decide +kernel) ⟨Nat.le_of_ble_eq_true rfl, Nat.le_of_ble_eq_true rfl⟩) rfl rfl ha310 hT322 (by decide) rfl (Nat.le_of_ble_eq_true rfl) dL_law_779 ⟨hg323.1, hg323.2⟩ ?_
  refine g_iadd X dL_law_782 ?_
  refine g_icmp_ne (tgt := 871) X dL_law_783 (by decide) (fun hc => ?_) (fun hc => ?_)
  · have hf := ife_f hc hf
    obtain ⟨w326, hw326, hz326⟩ := oI_e hf
    subst hz326
    have hf := hw326
    obtain ⟨w327, hw327, hz327⟩ := oI_e hf
    subst hz327
    have hf := hw327
    refine g_sub (lvsub_of _ _ [] rfl) ?_
    exact t_L_law_871 X2 hr hlx hH hne hH0 _ _ _ _ hf hK
  · have hf := ife_t hc hf
    refine g_aload_n X dL_law_786 rfl rfl ?_
    refine g_iload X dL_law_787 rfl ?_
    refine g_iconst (v := (5 : Int32)) X dL_law_789 (by decide) ?_
    obtain ⟨hT329, hf⟩ := ck_e hf
    obtain ⟨hg330, hf⟩ := ck_e hf
    rcases bx_e hf with ⟨e328, M328, hq328, hf⟩ | ⟨r328, M328, hq328, hf⟩
    · obtain ⟨w331, hw331, hz331⟩ := oI_e hf
      subst hz331
      have hf := hw331
      obtain ⟨w332, hw332, hz332⟩ := oI_e hf
      subst hz332
      have hf := hw332
      cases hf
      refine g_eqQ hK ?_
      exact g_callTV (ci := 9) (b := a310) (As := [vI x26, vI (5 : Int32)]) (st := []) (M1 := M328) X2 hne (m_X11_fisher l hlx hH0 hq328) (cwV 2 X.2.2.1 gL_law_X11_fisher rfl rfl rfl (by decide +kernel) ⟨Nat.le_of_ble_eq_true rfl, Nat.le_of_ble_eq_true rfl⟩) rfl rfl ha310 hT329 (by decide) rfl (Nat.le_of_ble_eq_true rfl) dL_law_790 ⟨hg330.1, hg330.2⟩ hg330.1 hg330.2
    refine g_callXV (ci := 9) (b := a310) (As := [vI x26, vI (5 : Int32)]) (st := []) (v := some (vI r328)) (M1 := M328) X2 (m_X11_fisher l hlx hH0 hq328) (cwV 2 X.2.2.1 gL_law_X11_fisher rfl rfl rfl (by decide +kernel) ⟨Nat.le_of_ble_eq_true rfl, Nat.le_of_ble_eq_true rfl⟩) rfl rfl ha310 hT329 (by decide) rfl (Nat.le_of_ble_eq_true rfl) dL_law_790 ⟨hg330.1, hg330.2⟩ ?_
    refine g_if_lt (tgt := 871) X dL_law_793 (by decide) (fun hc => ?_) (fun hc => ?_)
    · have hf := ife_t hc hf
      obtain ⟨w333, hw333, hz333⟩ := oI_e hf
      subst hz333
      have hf := hw333
      obtain ⟨w334, hw334, hz334⟩ := oI_e hf
      subst hz334
      have hf := hw334
      refine g_sub (lvsub_of _ _ [] rfl) ?_
      exact t_L_law_871 X2 hr hlx hH hne hH0 _ _ _ _ hf hK
    · have hf := ife_f hc hf
      refine g_iload X dL_law_796 rfl ?_
      refine g_if_lt (tgt := 871) X dL_law_798 (by decide) (fun hc => ?_) (fun hc => ?_)
      · have hf := ife_t hc hf
        obtain ⟨w335, hw335, hz335⟩ := oI_e hf
        subst hz335
        have hf := hw335
        obtain ⟨w336, hw336, hz336⟩ := oI_e hf
        subst hz336
        have hf := hw336
        refine g_sub (lvsub_of _ _ [] rfl) ?_
        exact t_L_law_871 X2 hr hlx hH hne hH0 _ _ _ _ hf hK
      · have hf := ife_f hc hf
        refine g_iload X dL_law_801 rfl ?_
        refine g_aload X dL_law_803 rfl ?_
        refine g_iload X dL_law_805 rfl ?_
        obtain ⟨hT337, hf⟩ := ck_e hf
        obtain ⟨hg338, hf⟩ := ck_e hf
        refine g_aaldA X dL_law_807 ha315 hT337 hg338 ?_
        refine g_iconst (v := (3 : Int32)) X dL_law_808 (by decide) ?_
        obtain ⟨a339, ha339, hf⟩ := dr_e hf
        obtain ⟨hT340, hf⟩ := ck_e hf
        obtain ⟨hg341, hf⟩ := ck_e hf
        refine g_iald X dL_law_809 ha339 hT340 hg341 ?_
        refine g_icmp_gt (tgt := 871) X dL_law_810 (by decide) (fun hc => ?_) (fun hc => ?_)
        · have hf := ife_t hc hf
          obtain ⟨w342, hw342, hz342⟩ := oI_e hf
          subst hz342
          have hf := hw342
          obtain ⟨w343, hw343, hz343⟩ := oI_e hf
          subst hz343
          have hf := hw343
          refine g_sub (lvsub_of _ _ [] rfl) ?_
          exact t_L_law_871 X2 hr hlx hH hne hH0 _ _ _ _ hf hK
        · have hf := ife_f hc hf
          refine g_iload X dL_law_813 rfl ?_
          refine g_if_ge (tgt := 828) X dL_law_815 (by decide) (fun hc => ?_) (fun hc => ?_)
          · have hf := ife_t hc hf
            refine g_sub (lvsub_of _ _ [0, 1, 2, 3, 4, 5, 6, 7, 8, 9, 10, 11, 12, 13, 14, 15, 16, 19] rfl) ?_
            exact t_L_law_828 X2 hr hlx hH hne hH0 _ _ _ _ _ _ _ _ _ _ _ _ _ _ _ _ _ _ _ _ _ hf hK
          · have hf := ife_f hc hf
            refine g_iload X dL_law_818 rfl ?_
            refine g_if_gt (tgt := 871) X dL_law_820 (by decide) (fun hc => ?_) (fun hc => ?_)
            · have hf := ife_t hc hf
              obtain ⟨w344, hw344, hz344⟩ := oI_e hf
              subst hz344
              have hf := hw344
              obtain ⟨w345, hw345, hz345⟩ := oI_e hf
              subst hz345
              have hf := hw345
              refine g_sub (lvsub_of _ _ [] rfl) ?_
              exact t_L_law_871 X2 hr hlx hH hne hH0 _ _ _ _ hf hK
            · have hf := ife_f hc hf
              refine g_iload X dL_law_823 rfl ?_
              refine g_if_gt (tgt := 871) X dL_law_825 (by decide) (fun hc => ?_) (fun hc => ?_)
              · have hf := ife_t hc hf
                obtain ⟨w346, hw346, hz346⟩ := oI_e hf
                subst hz346
                have hf := hw346
                obtain ⟨w347, hw347, hz347⟩ := oI_e hf
                subst hz347
                have hf := hw347
                refine g_sub (lvsub_of _ _ [] rfl) ?_
                exact t_L_law_871 X2 hr hlx hH hne hH0 _ _ _ _ hf hK
              · have hf := ife_f hc hf
                refine g_sub (lvsub_of _ _ [0, 1, 2, 3, 4, 5, 6, 7, 8, 9, 10, 11, 12, 13, 14, 15, 16, 19] rfl) ?_
                exact t_L_law_828 X2 hr hlx hH hne hH0 _ _ _ _ _ _ _ _ _ _ _ _ _ _ _ _ _ _ _ _ _ hf hK
set_option maxHeartbeats 4000000 in
set_option maxRecDepth 100000 in
theorem tb_L_law_680 (X2 : gX p s m args meth c D cy B (gSt2 Z B H0) RL cL_law wsL_law 34) (hr : meth.sig.returnType = (some .boolean)) (hlx : l.stackTraces = false) (hH : ∀ q : Nat, q < B → s.heap[q]? = H0[q]?) (hne : ∀ x ∈ c.exceptionTable.toList, False) (hH0 : H0.size = B) {Q : State → Prop} : ∀ (M : gMem) (kc : Nat) (kn : Nat) (x2 : Option Nat) (x3 : Option Nat) (x4 : Int32) (x5 : Int32) (x6 : Int32) (x7 : Int32) (x10 : Option Nat) (x11 : Option Nat) (x12 : Option Nat) (x19 : Int32) (x20 : Int32) (x21 : Int32) (x23 : Int32) (x24 : Option Nat) (x25 : Int32) (x26 : Int32) (z : (gMem × Nat × Nat × Int32 × Int32) ⊕ ((gMem × Nat × Nat × Int32) ⊕ ((Nat ⊕ Int32) × gMem))), bb_L_law_680 Z M kc kn x2 x3 x4 x5 x6 x7 x10 x11 x12 x19 x20 x21 x23 x24 x25 x26 = some z → (Sum.elim (fun (q : gMem × Nat × Nat × Int32 × Int32) => gGo p l e rL_law s m args below meth c D cy B H0 34 q.2.1 q.2.2.1 Q 680 [(0, vR (some (Z 400))), (2, vR x2), (3, vR x3), (4, vI x4), (5, vI x5), (6, vI x6), (7, vI x7), (10, vR x10), (11, vR x11), (12, vR x12), (19, vI x19), (20, vI x20), (21, vI x21), (23, vI x23), (24, vR x24), (25, vI q.2.2.2.1), (26, vI q.2.2.2.2)] [] q.1) (Sum.elim (fun (q : gMem × Nat × Nat × Int32) => gGo p l e rL_law s m args below meth c D cy B H0 34 q.2.1 q.2.2.1 Q 59 [(0, vR (some (Z 400))), (2, vR x2), (3, vR x3), (4, vI x4), (5, vI x5), (6, vI x6), (7, vI q.2.2.2)] [] q.1) (fun (r : (Nat ⊕ Int32) × gMem) => Q = gMX below D cy B H0 args s 600086 7301442 (gzI r.1) r.2))) z → gGo p l e rL_law s m args below meth c D cy B H0 34 kc kn Q 680 [(0, vR (some (Z 400))), (2, vR x2), (3, vR x3), (4, vI x4), (5, vI x5), (6, vI x6), (7, vI x7), (10, vR x10), (11, vR x11), (12, vR x12), (19, vI x19), (20, vI x20), (21, vI x21), (23, vI x23), (24, vR x24), (25, vI x25), (26, vI x26)] [] M := by
  intro M kc kn x2 x3 x4 x5 x6 x7 x10 x11 x12 x19 x20 x21 x23 x24 x25 x26 z hf hK
  unfold bb_L_law_680 at hf
  have X := gX_w X2
  refine g_iload X dL_law_680 rfl ?_
  refine g_iload X dL_law_682 rfl ?_
  refine g_icmp_ge (tgt := 997) X dL_law_684 (by decide) (fun hc => ?_) (fun hc => ?_)
  · have hf := ife_t hc hf
    refine g_iload X dL_law_997 rfl ?_
    refine g_iload X dL_law_999 rfl ?_
    refine g_icmp_eq (tgt := 1006) X dL_law_1001 (by decide) (fun hc => ?_) (fun hc => ?_)
    · have hf := ife_t hc hf
      refine g_iconst (v := (0 : Int32)) X dL_law_1006 (by decide) ?_
      refine g_istore (lv' := [(26, vI (0 : Int32)), (0, vR (some (Z 400))), (2, vR x2), (3, vR x3), (4, vI x4), (5, vI x5), (6, vI x6), (7, vI x7), (10, vR x10), (11, vR x11), (12, vR x12), (19, vI x19), (20, vI x20), (21, vI x21), (23, vI x23), (24, vR x24), (25, vI x25)]) X dL_law_1007 (by decide) rfl ?_
      obtain ⟨w348, hw348, hz348⟩ := oI_e hf
      subst hz348
      have hf := hw348
      refine g_sub (lvsub_of _ _ [1, 2, 3, 4, 5, 6, 7, 8, 9, 10, 11, 12, 13, 14, 15, 0] rfl) ?_
      exact tl_L_law_1009 X2 hr hlx hH hne hH0 _ _ _ _ _ _ _ _ _ _ _ _ _ _ _ _ _ _ _ hf hK
    · have hf := ife_f hc hf
      refine g_iconst (v := (0 : Int32)) X dL_law_1004 (by decide) ?_
      obtain ⟨hg349, hf⟩ := ck_e hf
      obtain ⟨w350, hw350, hz350⟩ := oI_e hf
      subst hz350
      have hf := hw350
      obtain ⟨w351, hw351, hz351⟩ := oI_e hf
      subst hz351
      have hf := hw351
      cases hf
      refine g_eqQ hK ?_
      refine g_wide (k' := 600086) (n' := 7301442) hg349.1 hg349.2 ?_
      refine g_xret ?_
      exact g_zret X hr (gnb (Or.inl rfl)) dL_law_1005
  · have hf := ife_f hc hf
    refine g_aload_n X dL_law_687 rfl rfl ?_
    refine g_iload X dL_law_688 rfl ?_
    refine g_bipush (v := (6 : Int32)) X dL_law_690 (by decide) ?_
    obtain ⟨a353, ha353, hf⟩ := dr_e hf
    obtain ⟨hT354, hf⟩ := ck_e hf
    obtain ⟨hg355, hf⟩ := ck_e hf
    rcases bx_e hf with ⟨e352, M352, hq352, hf⟩ | ⟨r352, M352, hq352, hf⟩
    · obtain ⟨w356, hw356, hz356⟩ := oI_e hf
      subst hz356
      have hf := hw356
      obtain ⟨w357, hw357, hz357⟩ := oI_e hf
      subst hz357
      have hf := hw357
      cases hf
      refine g_eqQ hK ?_
      exact g_callTV (ci := 9) (b := a353) (As := [vI x26, vI (6 : Int32)]) (st := []) (M1 := M352) X2 hne (m_X11_fisher l hlx hH0 hq352) (cwV 2 X.2.2.1 gL_law_X11_fisher rfl rfl rfl (by decide +kernel) ⟨Nat.le_of_ble_eq_true rfl, Nat.le_of_ble_eq_true rfl⟩) rfl rfl ha353 hT354 (by decide) rfl (Nat.le_of_ble_eq_true rfl) dL_law_692 ⟨hg355.1, hg355.2⟩ hg355.1 hg355.2
    refine g_callXV (ci := 9) (b := a353) (As := [vI x26, vI (6 : Int32)]) (st := []) (v := some (vI r352)) (M1 := M352) X2 (m_X11_fisher l hlx hH0 hq352) (cwV 2 X.2.2.1 gL_law_X11_fisher rfl rfl rfl (by decide +kernel) ⟨Nat.le_of_ble_eq_true rfl, Nat.le_of_ble_eq_true rfl⟩) rfl rfl ha353 hT354 (by decide) rfl (Nat.le_of_ble_eq_true rfl) dL_law_692 ⟨hg355.1, hg355.2⟩ ?_
    refine g_istore (lv' := [(27, vI r352), (0, vR (some (Z 400))), (2, vR x2), (3, vR x3), (4, vI x4), (5, vI x5), (6, vI x6), (7, vI x7), (10, vR x10), (11, vR x11), (12, vR x12), (19, vI x19), (20, vI x20), (21, vI x21), (23, vI x23), (24, vR x24), (25, vI x25), (26, vI x26)]) X dL_law_695 (by decide) rfl ?_
    refine g_aload_n X dL_law_697 rfl rfl ?_
    refine g_iload X dL_law_698 rfl ?_
    refine g_bipush (v := (9 : Int32)) X dL_law_700 (by decide) ?_
    obtain ⟨hT359, hf⟩ := ck_e hf
    obtain ⟨hg360, hf⟩ := ck_e hf
    rcases bx_e hf with ⟨e358, M358, hq358, hf⟩ | ⟨r358, M358, hq358, hf⟩
    · obtain ⟨w361, hw361, hz361⟩ := oI_e hf
      subst hz361
      have hf := hw361
      obtain ⟨w362, hw362, hz362⟩ := oI_e hf
      subst hz362
      have hf := hw362
      cases hf
      refine g_eqQ hK ?_
      exact g_callTV (ci := 9) (b := a353) (As := [vI x26, vI (9 : Int32)]) (st := []) (M1 := M358) X2 hne (m_X11_fisher l hlx hH0 hq358) (cwV 2 X.2.2.1 gL_law_X11_fisher rfl rfl rfl (by decide +kernel) ⟨Nat.le_of_ble_eq_true rfl, Nat.le_of_ble_eq_true rfl⟩) rfl rfl ha353 hT359 (by decide) rfl (Nat.le_of_ble_eq_true rfl) dL_law_702 ⟨hg360.1, hg360.2⟩ hg360.1 hg360.2
    refine g_callXV (ci := 9) (b := a353) (As := [vI x26, vI (9 : Int32)]) (st := []) (v := some (vI r358)) (M1 := M358) X2 (m_X11_fisher l hlx hH0 hq358) (cwV 2 X.2.2.1 gL_law_X11_fisher rfl rfl rfl (by decide +kernel) ⟨Nat.le_of_ble_eq_true rfl, Nat.le_of_ble_eq_true rfl⟩) rfl rfl ha353 hT359 (by decide) rfl (Nat.le_of_ble_eq_true rfl) dL_law_702 ⟨hg360.1, hg360.2⟩ ?_
    refine g_aload X dL_law_705 rfl ?_
    refine g_iload X dL_law_707 rfl ?_
    obtain ⟨a363, ha363, hf⟩ := dr_e hf
    obtain ⟨hT364, hf⟩ := ck_e hf
    obtain ⟨hg365, hf⟩ := ck_e hf
    refine g_aaldA X dL_law_709 ha363 hT364 hg365 ?_
    refine g_bipush (v := (9 : Int32)) X dL_law_710 (by decide) ?_
    obtain ⟨a366, ha366, hf⟩ := dr_e hf
    obtain ⟨hT367, hf⟩ := ck_e hf
    obtain ⟨hg368, hf⟩ := ck_e hf
    refine g_iald X dL_law_712 ha366 hT367 hg368 ?_
    refine g_isub X dL_law_713 ?_
    refine g_istore (lv' := [(28, vI (r358 - (mI M358 a366 ((9 : Int32)).toNatClampNeg))), (27, vI r352), (0, vR (some (Z 400))), (2, vR x2), (3, vR x3), (4, vI x4), (5, vI x5), (6, vI x6), (7, vI x7), (10, vR x10), (11, vR x11), (12, vR x12), (19, vI x19), (20, vI x20), (21, vI x21), (23, vI x23), (24, vR x24), (25, vI x25), (26, vI x26)]) X dL_law_714 (by decide) rfl ?_
    refine g_aload_n X dL_law_716 rfl rfl ?_
    refine g_iload X dL_law_717 rfl ?_
    refine g_bipush (v := (7 : Int32)) X dL_law_719 (by decide) ?_
    obtain ⟨hT370, hf⟩ := ck_e hf
    obtain ⟨hg371, hf⟩ := ck_e hf
    rcases bx_e hf with ⟨e369, M369, hq369, hf⟩ | ⟨r369, M369, hq369, hf⟩
    · obtain ⟨w372, hw372, hz372⟩ := oI_e hf
      subst hz372
      have hf := hw372
      obtain ⟨w373, hw373, hz373⟩ := oI_e hf
      subst hz373
      have hf := hw373
      cases hf
      refine g_eqQ hK ?_
      exact g_callTV (ci := 9) (b := a353) (As := [vI x26, vI (7 : Int32)]) (st := []) (M1 := M369) X2 hne (m_X11_fisher l hlx hH0 hq369) (cwV 2 X.2.2.1 gL_law_X11_fisher rfl rfl rfl (by decide +kernel) ⟨Nat.le_of_ble_eq_true rfl, Nat.le_of_ble_eq_true rfl⟩) rfl rfl ha353 hT370 (by decide) rfl (Nat.le_of_ble_eq_true rfl) dL_law_721 ⟨hg371.1, hg371.2⟩ hg371.1 hg371.2
    refine g_callXV (ci := 9) (b := a353) (As := [vI x26, vI (7 : Int32)]) (st := []) (v := some (vI r369)) (M1 := M369) X2 (m_X11_fisher l hlx hH0 hq369) (cwV 2 X.2.2.1 gL_law_X11_fisher rfl rfl rfl (by decide +kernel) ⟨Nat.le_of_ble_eq_true rfl, Nat.le_of_ble_eq_true rfl⟩) rfl rfl ha353 hT370 (by decide) rfl (Nat.le_of_ble_eq_true rfl) dL_law_721 ⟨hg371.1, hg371.2⟩ ?_
    refine g_aload X dL_law_724 rfl ?_
    refine g_iload X dL_law_726 rfl ?_
    obtain ⟨hT374, hf⟩ := ck_e hf
    obtain ⟨hg375, hf⟩ := ck_e hf
    refine g_aaldA X dL_law_728 ha363 hT374 hg375 ?_
    refine g_bipush (v := (7 : Int32)) X dL_law_729 (by decide) ?_
    obtain ⟨a376, ha376, hf⟩ := dr_e hf
    obtain ⟨hT377, hf⟩ := ck_e hf
    obtain ⟨hg378, hf⟩ := ck_e hf
    refine g_iald X dL_law_731 ha376 hT377 hg378 ?_
    refine g_isub X dL_law_732 ?_
    refine g_istore (lv' := [(29, vI (r369 - (mI M369 a376 ((7 : Int32)).toNatClampNeg))), (28, vI (r358 - (mI M358 a366 ((9 : Int32)).toNatClampNeg))), (27, vI r352), (0, vR (some (Z 400))), (2, vR x2), (3, vR x3), (4, vI x4), (5, vI x5), (6, vI x6), (7, vI x7), (10, vR x10), (11, vR x11), (12, vR x12), (19, vI x19), (20, vI x20), (21, vI x21), (23, vI x23), (24, vR x24), (25, vI x25), (26, vI x26)]) X dL_law_733 (by decide) rfl ?_
    refine g_iload X dL_law_735 rfl ?_
    refine g_aload_n X dL_law_737 rfl rfl ?_
    refine g_iload X dL_law_738 rfl ?_
    refine g_iconst (v := (5 : Int32)) X dL_law_740 (by decide) ?_
    obtain ⟨hT380, hf⟩ := ck_e hf
    obtain ⟨hg381, hf⟩ := ck_e hf
    rcases bx_e hf with ⟨e379, M379, hq379, hf⟩ | ⟨r379, M379, hq379, hf⟩
    · obtain ⟨w382, hw382, hz382⟩ := oI_e hf
      subst hz382
      have hf := hw382
      obtain ⟨w383, hw383, hz383⟩ := oI_e hf
      subst hz383
      have hf := hw383
      cases hf
      refine g_eqQ hK ?_
      exact g_callTV (ci := 9) (b := a353) (As := [vI x26, vI (5 : Int32)]) (st := [vI x25]) (M1 := M379) X2 hne (m_X11_fisher l hlx hH0 hq379) (cwV 2 X.2.2.1 gL_law_X11_fisher rfl rfl rfl (by decide +kernel) ⟨Nat.le_of_ble_eq_true rfl, Nat.le_of_ble_eq_true rfl⟩) rfl rfl ha353 hT380 (by decide) rfl (Nat.le_of_ble_eq_true rfl) dL_law_741 ⟨hg381.1, hg381.2⟩ hg381.1 hg381.2
    refine g_callXV (ci := 9) (b := a353) (As := [vI x26, vI (5 : Int32)]) (st := [vI x25]) (v := some (vI r379)) (M1 := M379) X2 (m_X11_fisher l hlx hH0 hq379) (cwV 2 X.2.2.1 gL_law_X11_fisher rfl rfl rfl (by decide +kernel) ⟨Nat.le_of_ble_eq_true rfl, Nat.le_of_ble_eq_true rfl⟩) rfl rfl ha353 hT380 (by decide) rfl (Nat.le_of_ble_eq_true rfl) dL_law_741 ⟨hg381.1, hg381.2⟩ ?_
    refine g_iadd X dL_law_744 ?_
    refine g_istore (lv' := [(25, vI (x25 + r379)), (29, vI (r369 - (mI M369 a376 ((7 : Int32)).toNatClampNeg))), (28, vI (r358 - (mI M358 a366 ((9 : Int32)).toNatClampNeg))), (27, vI r352), (0, vR (some (Z 400))), (2, vR x2), (3, vR x3), (4, vI x4), (5, vI x5), (6, vI x6), (7, vI x7), (10, vR x10), (11, vR x11), (12, vR x12), (19, vI x19), (20, vI x20), (21, vI x21), (23, vI x23), (24, vR x24), (26, vI x26)]) X dL_law_745 (by decide) rfl ?_
    refine g_iload X dL_law_747 rfl ?_
    refine g_if_lt (tgt := 761) X dL_law_749 (by decide) (fun hc => ?_) (fun hc => ?_)
    · have hf := ife_t hc hf
      refine g_sub (lvsub_of _ _ [4, 5, 6, 7, 8, 9, 10, 11, 12, 13, 14, 15, 16, 17, 18, 0, 19, 3, 2, 1] rfl) ?_
      exact t_L_law_761 X2 hr hlx hH hne hH0 _ _ _ _ _ _ _ _ _ _ _ _ _ _ _ _ _ _ _ _ _ _ _ hf hK
    · have hf := ife_f hc hf
      refine g_aload X dL_law_752 rfl ?_
      refine g_iload X dL_law_754 rfl ?_
      refine g_dup2 X dL_law_756 rfl rfl ?_
      obtain ⟨a384, ha384, hf⟩ := dr_e hf
      obtain ⟨hT385, hf⟩ := ck_e hf
      obtain ⟨hg386, hf⟩ := ck_e hf
      refine g_iald X dL_law_757 ha384 hT385 hg386 ?_
      refine g_iconst (v := (1 : Int32)) X dL_law_758 (by decide) ?_
      refine g_iadd X dL_law_759 ?_
      obtain ⟨hg387, hf⟩ := ck_e hf
      refine g_iast X dL_law_760 ha384 hT385 hg387 ?_
      obtain ⟨M388, hM388, hf⟩ := lw_e hf
      rw [← hM388]
      have hT389 : mT M388 a384 = 20 := by rw [hM388]; exact hT385
      refine g_sub (lvsub_of _ _ [4, 5, 6, 7, 8, 9, 10, 11, 12, 13, 14, 15, 16, 17, 18, 0, 19, 3, 2, 1] rfl) ?_
      exact t_L_law_761 X2 hr hlx hH hne hH0 _ _ _ _ _ _ _ _ _ _ _ _ _ _ _ _ _ _ _ _ _ _ _ hf hK
set_option maxHeartbeats 4000000 in
set_option maxRecDepth 100000 in
theorem tl_L_law_680 (X2 : gX p s m args meth c D cy B (gSt2 Z B H0) RL cL_law wsL_law 34) (hr : meth.sig.returnType = (some .boolean)) (hlx : l.stackTraces = false) (hH : ∀ q : Nat, q < B → s.heap[q]? = H0[q]?) (hne : ∀ x ∈ c.exceptionTable.toList, False) (hH0 : H0.size = B) {Q : State → Prop} : ∀ (M : gMem) (kc : Nat) (kn : Nat) (x2 : Option Nat) (x3 : Option Nat) (x4 : Int32) (x5 : Int32) (x6 : Int32) (x7 : Int32) (x10 : Option Nat) (x11 : Option Nat) (x12 : Option Nat) (x19 : Int32) (x20 : Int32) (x21 : Int32) (x23 : Int32) (x24 : Option Nat) (x25 : Int32) (x26 : Int32) (z : (gMem × Nat × Nat × Int32) ⊕ ((Nat ⊕ Int32) × gMem)), lp_L_law_680 Z M kc kn x2 x3 x4 x5 x6 x7 x10 x11 x12 x19 x20 x21 x23 x24 x25 x26 = some z → (Sum.elim (fun (q : gMem × Nat × Nat × Int32) => gGo p l e rL_law s m args below meth c D cy B H0 34 q.2.1 q.2.2.1 Q 59 [(0, vR (some (Z 400))), (2, vR x2), (3, vR x3), (4, vI x4), (5, vI x5), (6, vI x6), (7, vI q.2.2.2)] [] q.1) (fun (r : (Nat ⊕ Int32) × gMem) => Q = gMX below D cy B H0 args s 600086 7301442 (gzI r.1) r.2)) z → gGo p l e rL_law s m args below meth c D cy B H0 34 kc kn Q 680 [(0, vR (some (Z 400))), (2, vR x2), (3, vR x3), (4, vI x4), (5, vI x5), (6, vI x6), (7, vI x7), (10, vR x10), (11, vR x11), (12, vR x12), (19, vI x19), (20, vI x20), (21, vI x21), (23, vI x23), (24, vR x24), (25, vI x25), (26, vI x26)] [] M := by
  intro M kc kn x2 x3 x4 x5 x6 x7 x10 x11 x12 x19 x20 x21 x23 x24 x25 x26 z hf hK
  refine lp_ind (P := (fun (q : gMem × Nat × Nat × Int32 × Int32) (z : (gMem × Nat × Nat × Int32) ⊕ ((Nat ⊕ Int32) × gMem)) => (Sum.elim (fun (q : gMem × Nat × Nat × Int32) => gGo p l e rL_law s m args below meth c D cy B H0 34 q.2.1 q.2.2.1 Q 59 [(0, vR (some (Z 400))), (2, vR x2), (3, vR x3), (4, vI x4), (5, vI x5), (6, vI x6), (7, vI q.2.2.2)] [] q.1) (fun (r : (Nat ⊕ Int32) × gMem) => Q = gMX below D cy B H0 args s 600086 7301442 (gzI r.1) r.2)) z → gGo p l e rL_law s m args below meth c D cy B H0 34 q.2.1 q.2.2.1 Q 680 [(0, vR (some (Z 400))), (2, vR x2), (3, vR x3), (4, vI x4), (5, vI x5), (6, vI x6), (7, vI x7), (10, vR x10), (11, vR x11), (12, vR x12), (19, vI x19), (20, vI x20), (21, vI x21), (23, vI x23), (24, vR x24), (25, vI q.2.2.2.1), (26, vI q.2.2.2.2)] [] q.1)) (fun q z hq => ?_) _ _ hf hK
  intro hK
  obtain ⟨w, hw, hm⟩ := hq
  refine tb_L_law_680 X2 hr hlx hH hne hH0 _ _ _ _ _ _ _ _ _ _ _ _ _ _ _ _ _ _ _ w hw ?_
  cases w with
  | inl a => exact hm hK
  | inr b => cases hm; exact hK
set_option maxHeartbeats 4000000 in
set_option maxRecDepth 100000 in
theorem t_L_law_666 (X2 : gX p s m args meth c D cy B (gSt2 Z B H0) RL cL_law wsL_law 34) (hr : meth.sig.returnType = (some .boolean)) (hlx : l.stackTraces = false) (hH : ∀ q : Nat, q < B → s.heap[q]? = H0[q]?) (hne : ∀ x ∈ c.exceptionTable.toList, False) (hH0 : H0.size = B) {Q : State → Prop} : ∀ (M : gMem) (kc : Nat) (kn : Nat) (z : (Nat ⊕ Int32) × gMem), b_L_law_666 Z M kc kn = some z → (fun (r : (Nat ⊕ Int32) × gMem) => Q = gMX below D cy B H0 args s 600086 7301442 (gzI r.1) r.2) z → gGo p l e rL_law s m args below meth c D cy B H0 34 kc kn Q 666 [] [] M := by
  intro M kc kn z hf hK
  unfold b_L_law_666 at hf
  have X := gX_w X2
  refine g_iconst (v := (0 : Int32)) X dL_law_666 (by decide) ?_
  obtain ⟨hg390, hf⟩ := ck_e hf
  cases hf
  refine g_eqQ hK ?_
  refine g_wide (k' := 600086) (n' := 7301442) hg390.1 hg390.2 ?_
  refine g_xret ?_
  exact g_zret X hr (gnb (Or.inl rfl)) dL_law_667
set_option maxHeartbeats 4000000 in
set_option maxRecDepth 100000 in
theorem t_L_law_590 (X2 : gX p s m args meth c D cy B (gSt2 Z B H0) RL cL_law wsL_law 34) (hr : meth.sig.returnType = (some .boolean)) (hlx : l.stackTraces = false) (hH : ∀ q : Nat, q < B → s.heap[q]? = H0[q]?) (hne : ∀ x ∈ c.exceptionTable.toList, False) (hH0 : H0.size = B) {Q : State → Prop} : ∀ (M : gMem) (kc : Nat) (kn : Nat) (z : (Nat ⊕ Int32) × gMem), b_L_law_590 Z M kc kn = some z → (fun (r : (Nat ⊕ Int32) × gMem) => Q = gMX below D cy B H0 args s 600086 7301442 (gzI r.1) r.2) z → gGo p l e rL_law s m args below meth c D cy B H0 34 kc kn Q 590 [] [] M := by
  intro M kc kn z hf hK
  unfold b_L_law_590 at hf
  have X := gX_w X2
  refine g_iconst (v := (0 : Int32)) X dL_law_590 (by decide) ?_
  obtain ⟨hg391, hf⟩ := ck_e hf
  cases hf
  refine g_eqQ hK ?_
  refine g_wide (k' := 600086) (n' := 7301442) hg391.1 hg391.2 ?_
  refine g_xret ?_
  exact g_zret X hr (gnb (Or.inl rfl)) dL_law_591
set_option maxHeartbeats 4000000 in
set_option maxRecDepth 100000 in
theorem t_L_law_576 (X2 : gX p s m args meth c D cy B (gSt2 Z B H0) RL cL_law wsL_law 34) (hr : meth.sig.returnType = (some .boolean)) (hlx : l.stackTraces = false) (hH : ∀ q : Nat, q < B → s.heap[q]? = H0[q]?) (hne : ∀ x ∈ c.exceptionTable.toList, False) (hH0 : H0.size = B) {Q : State → Prop} : ∀ (M : gMem) (kc : Nat) (kn : Nat) (x2 : Option Nat) (x3 : Option Nat) (x4 : Int32) (x5 : Int32) (x6 : Int32) (x7 : Int32) (x10 : Option Nat) (x11 : Option Nat) (x12 : Option Nat) (x13 : Int32) (x14 : Int32) (x18 : Option Nat) (x19 : Int32) (x20 : Int32) (x21 : Int32) (s0 : Int32) (s1 : Int32) (z : (gMem × Nat × Nat × Int32) ⊕ ((Nat ⊕ Int32) × gMem)), b_L_law_576 Z M kc kn x2 x3 x4 x5 x6 x7 x10 x11 x12 x13 x14 x18 x19 x20 x21 s0 s1 = some z → (Sum.elim (fun (q : gMem × Nat × Nat × Int32) => gGo p l e rL_law s m args below meth c D cy B H0 34 q.2.1 q.2.2.1 Q 59 [(0, vR (some (Z 400))), (2, vR x2), (3, vR x3), (4, vI x4), (5, vI x5), (6, vI x6), (7, vI q.2.2.2)] [] q.1) (fun (r : (Nat ⊕ Int32) × gMem) => Q = gMX below D cy B H0 args s 600086 7301442 (gzI r.1) r.2)) z → gGo p l e rL_law s m args below meth c D cy B H0 34 kc kn Q 576 [(0, vR (some (Z 400))), (2, vR x2), (3, vR x3), (4, vI x4), (5, vI x5), (6, vI x6), (7, vI x7), (10, vR x10), (11, vR x11), (12, vR x12), (13, vI x13), (14, vI x14), (18, vR x18), (19, vI x19), (20, vI x20), (21, vI x21)] [vI s1, vI s0] M := by
  intro M kc kn x2 x3 x4 x5 x6 x7 x10 x11 x12 x13 x14 x18 x19 x20 x21 s0 s1 z hf hK
  unfold b_L_law_576 at hf
  have X := gX_w X2
  refine g_icmp_ne (tgt := 590) X dL_law_576 (by decide) (fun hc => ?_) (fun hc => ?_)
  · have hf := ife_f hc hf
    obtain ⟨w392, hw392, hz392⟩ := oI_e hf
    subst hz392
    have hf := hw392
    refine g_sub (lvsub_of _ _ [] rfl) ?_
    exact t_L_law_590 X2 hr hlx hH hne hH0 _ _ _ _ hf hK
  · have hf := ife_t hc hf
    refine g_aload_n X dL_law_579 rfl rfl ?_
    refine g_iload X dL_law_580 rfl ?_
    obtain ⟨a394, ha394, hf⟩ := dr_e hf
    obtain ⟨hT395, hf⟩ := ck_e hf
    obtain ⟨hg396, hf⟩ := ck_e hf
    rcases bx_e hf with ⟨e393, M393, hq393, hf⟩ | ⟨r393, M393, hq393, hf⟩
    · obtain ⟨w397, hw397, hz397⟩ := oI_e hf
      subst hz397
      have hf := hw397
      cases hf
      refine g_eqQ hK ?_
      exact g_callTV (ci := 9) (b := a394) (As := [vI x19]) (st := []) (M1 := M393) X2 hne (m_X11_blame l hlx hH0 hq393) (cwV 1 X.2.2.1 gL_law_X11_blame rfl rfl rfl (by decide +kernel) ⟨Nat.le_of_ble_eq_true rfl, Nat.le_of_ble_eq_true rfl⟩) rfl rfl ha394 hT395 (by decide) rfl (Nat.le_of_ble_eq_true rfl) dL_law_582 ⟨hg396.1, hg396.2⟩ hg396.1 hg396.2
    refine g_callXV (ci := 9) (b := a394) (As := [vI x19]) (st := []) (v := some (vI r393)) (M1 := M393) X2 (m_X11_blame l hlx hH0 hq393) (cwV 1 X.2.2.1 gL_law_X11_blame rfl rfl rfl (by decide +kernel) ⟨Nat.le_of_ble_eq_true rfl, Nat.le_of_ble_eq_true rfl⟩) rfl rfl ha394 hT395 (by decide) rfl (Nat.le_of_ble_eq_true rfl) dL_law_582 ⟨hg396.1, hg396.2⟩ ?_
    refine g_iload X dL_law_585 rfl ?_
    refine g_icmp_lt (tgt := 592) X dL_law_587 (by decide) (fun hc => ?_) (fun hc => ?_)
    · have hf := ife_t hc hf
      refine g_aload_n X dL_law_592 rfl rfl ?_
      refine g_iconst (v := (1 : Int32)) X dL_law_593 (by decide) ?_
      obtain ⟨hT399, hf⟩ := ck_e hf
      obtain ⟨hg400, hf⟩ := ck_e hf
      rcases bx_e hf with ⟨e398, M398, hq398, hf⟩ | ⟨r398, M398, hq398, hf⟩
      · obtain ⟨w401, hw401, hz401⟩ := oI_e hf
        subst hz401
        have hf := hw401
        cases hf
        refine g_eqQ hK ?_
        exact g_callTV (ci := 9) (b := a394) (As := [vI (1 : Int32)]) (st := []) (M1 := M398) X2 hne (m_X11_pass l hlx hH0 hq398) (cwV 1 X.2.2.1 gL_law_X11_pass rfl rfl rfl (by decide +kernel) ⟨Nat.le_of_ble_eq_true rfl, Nat.le_of_ble_eq_true rfl⟩) rfl rfl ha394 hT399 (by decide) rfl (Nat.le_of_ble_eq_true rfl) dL_law_594 ⟨hg400.1, hg400.2⟩ hg400.1 hg400.2
      refine g_callXV (ci := 9) (b := a394) (As := [vI (1 : Int32)]) (st := []) (v := some (vI r398)) (M1 := M398) X2 (m_X11_pass l hlx hH0 hq398) (cwV 1 X.2.2.1 gL_law_X11_pass rfl rfl rfl (by decide +kernel) ⟨Nat.le_of_ble_eq_true rfl, Nat.le_of_ble_eq_true rfl⟩) rfl rfl ha394 hT399 (by decide) rfl (Nat.le_of_ble_eq_true rfl) dL_law_594 ⟨hg400.1, hg400.2⟩ ?_
      refine g_istore (lv' := [(23, vI r398), (0, vR (some (Z 400))), (2, vR x2), (3, vR x3), (4, vI x4), (5, vI x5), (6, vI x6), (7, vI x7), (10, vR x10), (11, vR x11), (12, vR x12), (13, vI x13), (14, vI x14), (18, vR x18), (19, vI x19), (20, vI x20), (21, vI x21)]) X dL_law_597 (by decide) rfl ?_
      refine g_aload_n X dL_law_599 rfl rfl ?_
      refine g_iconst (v := (0 : Int32)) X dL_law_600 (by decide) ?_
      obtain ⟨hT403, hf⟩ := ck_e hf
      obtain ⟨hg404, hf⟩ := ck_e hf
      rcases bx_e hf with ⟨e402, M402, hq402, hf⟩ | ⟨r402, M402, hq402, hf⟩
      · obtain ⟨w405, hw405, hz405⟩ := oI_e hf
        subst hz405
        have hf := hw405
        cases hf
        refine g_eqQ hK ?_
        exact g_callTV (ci := 9) (b := a394) (As := [vI (0 : Int32)]) (st := []) (M1 := M402) X2 hne (m_X11_count l hlx hH0 hq402) (cwV 1 X.2.2.1 gL_law_X11_count rfl rfl rfl (by decide +kernel) ⟨Nat.le_of_ble_eq_true rfl, Nat.le_of_ble_eq_true rfl⟩) rfl rfl ha394 hT403 (by decide) rfl (Nat.le_of_ble_eq_true rfl) dL_law_601 ⟨hg404.1, hg404.2⟩ hg404.1 hg404.2
      refine g_callXV (ci := 9) (b := a394) (As := [vI (0 : Int32)]) (st := []) (v := some (vI r402)) (M1 := M402) X2 (m_X11_count l hlx hH0 hq402) (cwV 1 X.2.2.1 gL_law_X11_count rfl rfl rfl (by decide +kernel) ⟨Nat.le_of_ble_eq_true rfl, Nat.le_of_ble_eq_true rfl⟩) rfl rfl ha394 hT403 (by decide) rfl (Nat.le_of_ble_eq_true rfl) dL_law_601 ⟨hg404.1, hg404.2⟩ ?_
      refine g_iload X dL_law_604 rfl ?_
      refine g_iconst (v := (1 : Int32)) X dL_law_606 (by decide) ?_
      refine g_iadd X dL_law_607 ?_
      refine g_icmp_ne (tgt := 666) X dL_law_608 (by decide) (fun hc => ?_) (fun hc => ?_)
      · have hf := ife_f hc hf
        obtain ⟨w406, hw406, hz406⟩ := oI_e hf
        subst hz406
        have hf := hw406
        refine g_sub (lvsub_of _ _ [] rfl) ?_
        exact t_L_law_666 X2 hr hlx hH hne hH0 _ _ _ _ hf hK
      · have hf := ife_t hc hf
        refine g_iload X dL_law_611 rfl ?_
        refine g_if_lt (tgt := 666) X dL_law_613 (by decide) (fun hc => ?_) (fun hc => ?_)
        · have hf := ife_t hc hf
          obtain ⟨w407, hw407, hz407⟩ := oI_e hf
          subst hz407
          have hf := hw407
          refine g_sub (lvsub_of _ _ [] rfl) ?_
          exact t_L_law_666 X2 hr hlx hH hne hH0 _ _ _ _ hf hK
        · have hf := ife_f hc hf
          refine g_aload_n X dL_law_616 rfl rfl ?_
          refine g_bipush (v := (6 : Int32)) X dL_law_617 (by decide) ?_
          obtain ⟨hT409, hf⟩ := ck_e hf
          obtain ⟨hg410, hf⟩ := ck_e hf
          rcases bx_e hf with ⟨e408, M408, hq408, hf⟩ | ⟨r408, M408, hq408, hf⟩
          · obtain ⟨w411, hw411, hz411⟩ := oI_e hf
            subst hz411
            have hf := hw411
            cases hf
            refine g_eqQ hK ?_
            exact g_callTV (ci := 9) (b := a394) (As := [vI (6 : Int32)]) (st := []) (M1 := M408) X2 hne (m_X11_count l hlx hH0 hq408) (cwV 1 X.2.2.1 gL_law_X11_count rfl rfl rfl (by decide +kernel) ⟨Nat.le_of_ble_eq_true rfl, Nat.le_of_ble_eq_true rfl⟩) rfl rfl ha394 hT409 (by decide) rfl (Nat.le_of_ble_eq_true rfl) dL_law_619 ⟨hg410.1, hg410.2⟩ hg410.1 hg410.2
          refine g_callXV (ci := 9) (b := a394) (As := [vI (6 : Int32)]) (st := []) (v := some (vI r408)) (M1 := M408) X2 (m_X11_count l hlx hH0 hq408) (cwV 1 X.2.2.1 gL_law_X11_count rfl rfl rfl (by decide +kernel) ⟨Nat.le_of_ble_eq_true rfl, Nat.le_of_ble_eq_true rfl⟩) rfl rfl ha394 hT409 (by decide) rfl (Nat.le_of_ble_eq_true rfl) dL_law_619 ⟨hg410.1, hg410.2⟩ ?_
          refine g_iload X dL_law_622 rfl ?_
          refine g_iload X dL_law_624 rfl ?_
          refine g_iadd X dL_law_626 ?_
          refine g_icmp_ne (tgt := 666) X dL_law_627 (by decide) (fun hc => ?_) (fun hc => ?_)
          · have hf := ife_f hc hf
            obtain ⟨w412, hw412, hz412⟩ := oI_e hf
            subst hz412
            have hf := hw412
            refine g_sub (lvsub_of _ _ [] rfl) ?_
            exact t_L_law_666 X2 hr hlx hH hne hH0 _ _ _ _ hf hK
          · have hf := ife_t hc hf
            refine g_aload_n X dL_law_630 rfl rfl ?_
            refine g_bipush (v := (6 : Int32)) X dL_law_631 (by decide) ?_
            obtain ⟨hT414, hf⟩ := ck_e hf
            obtain ⟨hg415, hf⟩ := ck_e hf
            rcases bx_e hf with ⟨e413, M413, hq413, hf⟩ | ⟨r413, M413, hq413, hf⟩
            · obtain ⟨w416, hw416, hz416⟩ := oI_e hf
              subst hz416
              have hf := hw416
              cases hf
              refine g_eqQ hK ?_
              exact g_callTV (ci := 9) (b := a394) (As := [vI (6 : Int32)]) (st := []) (M1 := M413) X2 hne (m_X11_count l hlx hH0 hq413) (cwV 1 X.2.2.1 gL_law_X11_count rfl rfl rfl (by decide +kernel) ⟨Nat.le_of_ble_eq_true rfl, Nat.le_of_ble_eq_true rfl⟩) rfl rfl ha394 hT414 (by decide) rfl (Nat.le_of_ble_eq_true rfl) dL_law_633 ⟨hg415.1, hg415.2⟩ hg415.1 hg415.2
            refine g_callXV (ci := 9) (b := a394) (As := [vI (6 : Int32)]) (st := []) (v := some (vI r413)) (M1 := M413) X2 (m_X11_count l hlx hH0 hq413) (cwV 1 X.2.2.1 gL_law_X11_count rfl rfl rfl (by decide +kernel) ⟨Nat.le_of_ble_eq_true rfl, Nat.le_of_ble_eq_true rfl⟩) rfl rfl ha394 hT414 (by decide) rfl (Nat.le_of_ble_eq_true rfl) dL_law_633 ⟨hg415.1, hg415.2⟩ ?_
            refine g_aload X dL_law_636 rfl ?_
            refine g_iconst (v := (0 : Int32)) X dL_law_638 (by decide) ?_
            obtain ⟨a417, ha417, hf⟩ := dr_e hf
            obtain ⟨hT418, hf⟩ := ck_e hf
            obtain ⟨hg419, hf⟩ := ck_e hf
            refine g_iald X dL_law_639 ha417 hT418 hg419 ?_
            refine g_icmp_ne (tgt := 666) X dL_law_640 (by decide) (fun hc => ?_) (fun hc => ?_)
            · have hf := ife_f hc hf
              obtain ⟨w420, hw420, hz420⟩ := oI_e hf
              subst hz420
              have hf := hw420
              refine g_sub (lvsub_of _ _ [] rfl) ?_
              exact t_L_law_666 X2 hr hlx hH hne hH0 _ _ _ _ hf hK
            · have hf := ife_t hc hf
              refine g_aload_n X dL_law_643 rfl rfl ?_
              refine g_iconst (v := (5 : Int32)) X dL_law_644 (by decide) ?_
              obtain ⟨hT422, hf⟩ := ck_e hf
              obtain ⟨hg423, hf⟩ := ck_e hf
              rcases bx_e hf with ⟨e421, M421, hq421, hf⟩ | ⟨r421, M421, hq421, hf⟩
              · obtain ⟨w424, hw424, hz424⟩ := oI_e hf
                subst hz424
                have hf := hw424
                cases hf
                refine g_eqQ hK ?_
                exact g_callTV (ci := 9) (b := a394) (As := [vI (5 : Int32)]) (st := []) (M1 := M421) X2 hne (m_X11_count l hlx hH0 hq421) (cwV 1 X.2.2.1 gL_law_X11_count rfl rfl rfl (by decide +kernel) ⟨Nat.le_of_ble_eq_true rfl, Nat.le_of_ble_eq_true rfl⟩) rfl rfl ha394 hT422 (by decide) rfl (Nat.le_of_ble_eq_true rfl) dL_law_645 ⟨hg423.1, hg423.2⟩ hg423.1 hg423.2
              refine g_callXV (ci := 9) (b := a394) (As := [vI (5 : Int32)]) (st := []) (v := some (vI r421)) (M1 := M421) X2 (m_X11_count l hlx hH0 hq421) (cwV 1 X.2.2.1 gL_law_X11_count rfl rfl rfl (by decide +kernel) ⟨Nat.le_of_ble_eq_true rfl, Nat.le_of_ble_eq_true rfl⟩) rfl rfl ha394 hT422 (by decide) rfl (Nat.le_of_ble_eq_true rfl) dL_law_645 ⟨hg423.1, hg423.2⟩ ?_
              refine g_aload X dL_law_648 rfl ?_
              refine g_iconst (v := (1 : Int32)) X dL_law_650 (by decide) ?_
              obtain ⟨hT425, hf⟩ := ck_e hf
              obtain ⟨hg426, hf⟩ := ck_e hf
              refine g_iald X dL_law_651 ha417 hT425 hg426 ?_
              refine g_icmp_ne (tgt := 666) X dL_law_652 (by decide) (fun hc => ?_) (fun hc => ?_)
              · have hf := ife_f hc hf
                obtain ⟨w427, hw427, hz427⟩ := oI_e hf
                subst hz427
                have hf := hw427
                refine g_sub (lvsub_of _ _ [] rfl) ?_
                exact t_L_law_666 X2 hr hlx hH hne hH0 _ _ _ _ hf hK
              · have hf := ife_t hc hf
                refine g_aload_n X dL_law_655 rfl rfl ?_
                obtain ⟨hT429, hf⟩ := ck_e hf
                obtain ⟨hg430, hf⟩ := ck_e hf
                obtain ⟨r428, M428, hq428, hf⟩ := bd_e hf
                refine g_callV (ci := 9) (b := a394) (As := []) (st := []) (v := some (vI r428)) (M1 := M428) X (m_X11_gap l hq428) (cwV 0 X.2.2.1 gL_law_X11_gap rfl rfl rfl (by decide +kernel) ⟨Nat.le_of_ble_eq_true rfl, Nat.le_of_ble_eq_true rfl⟩) rfl rfl ha394 hT429 (by decide) rfl (Nat.le_of_ble_eq_true rfl) dL_law_656 ⟨hg430.1, hg430.2⟩ ?_
                refine g_aload X dL_law_659 rfl ?_
                refine g_iconst (v := (2 : Int32)) X dL_law_661 (by decide) ?_
                obtain ⟨hT431, hf⟩ := ck_e hf
                obtain ⟨hg432, hf⟩ := ck_e hf
                refine g_iald X dL_law_662 ha417 hT431 hg432 ?_
                refine g_icmp_eq (tgt := 668) X dL_law_663 (by decide) (fun hc => ?_) (fun hc => ?_)
                · have hf := ife_t hc hf
                  refine g_iload X dL_law_668 rfl ?_
                  obtain ⟨hg433, hf⟩ := ck_e hf
                  obtain ⟨hg434, hf⟩ := ck_e hf
                  obtain ⟨hg435, hf⟩ := ck_e hf
                  refine g_newa (at' := .int) (t0 := 0) X k_L_law_acint (by exact Or.inl ⟨rfl, rfl⟩) hg433 (by omega) ⟨hg435.1, Nat.le_trans (Nat.add_le_add_left hg434 _) hg435.2⟩ dL_law_670 ?_
                  refine g_wide (k' := ((((((((kc + 1) + 1) + 1) + 1) + 1) + 1) + 0) + 1)) (n' := ((((((((kn + 6) + 6) + 6) + 6) + 6) + 6) + 0) + 8)) (Nat.le_refl _) (Nat.add_le_add_left hg434 _) ?_
                  obtain ⟨M436, hM436, hf⟩ := lw_e hf
                  rw [← hM436]
                  refine g_astore (lv' := [(24, vR (some (mN M428))), (23, vI r398), (0, vR (some (Z 400))), (2, vR x2), (3, vR x3), (4, vI x4), (5, vI x5), (6, vI x6), (7, vI x7), (10, vR x10), (11, vR x11), (12, vR x12), (13, vI x13), (14, vI x14), (18, vR x18), (19, vI x19), (20, vI x20), (21, vI x21)]) X dL_law_672 (by decide) rfl ?_
                  refine g_iconst (v := (0 : Int32)) X dL_law_674 (by decide) ?_
                  refine g_istore (lv' := [(25, vI (0 : Int32)), (24, vR (some (mN M428))), (23, vI r398), (0, vR (some (Z 400))), (2, vR x2), (3, vR x3), (4, vI x4), (5, vI x5), (6, vI x6), (7, vI x7), (10, vR x10), (11, vR x11), (12, vR x12), (13, vI x13), (14, vI x14), (18, vR x18), (19, vI x19), (20, vI x20), (21, vI x21)]) X dL_law_675 (by decide) rfl ?_
                  refine g_iconst (v := (0 : Int32)) X dL_law_677 (by decide) ?_
                  refine g_istore (lv' := [(26, vI (0 : Int32)), (25, vI (0 : Int32)), (24, vR (some (mN M428))), (23, vI r398), (0, vR (some (Z 400))), (2, vR x2), (3, vR x3), (4, vI x4), (5, vI x5), (6, vI x6), (7, vI x7), (10, vR x10), (11, vR x11), (12, vR x12), (13, vI x13), (14, vI x14), (18, vR x18), (19, vI x19), (20, vI x20), (21, vI x21)]) X dL_law_678 (by decide) rfl ?_
                  refine g_sub (lvsub_of _ _ [4, 5, 6, 7, 8, 9, 10, 11, 12, 13, 17, 18, 19, 3, 2, 1, 0] rfl) ?_
                  exact tl_L_law_680 X2 hr hlx hH hne hH0 _ _ _ _ _ _ _ _ _ _ _ _ _ _ _ _ _ _ _ _ hf hK
                · have hf := ife_f hc hf
                  obtain ⟨w437, hw437, hz437⟩ := oI_e hf
                  subst hz437
                  have hf := hw437
                  refine g_sub (lvsub_of _ _ [] rfl) ?_
                  exact t_L_law_666 X2 hr hlx hH hne hH0 _ _ _ _ hf hK
    · have hf := ife_f hc hf
      obtain ⟨w438, hw438, hz438⟩ := oI_e hf
      subst hz438
      have hf := hw438
      refine g_sub (lvsub_of _ _ [] rfl) ?_
      exact t_L_law_590 X2 hr hlx hH hne hH0 _ _ _ _ hf hK
end
