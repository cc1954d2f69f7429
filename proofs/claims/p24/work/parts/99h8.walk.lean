/-! The law's walk, 2 (written by law99h.py) -/
section
variable {p : Program} {l : Launch} {e : Env} {s : State} {m : MethodId} {args : Array Value} {below : List Frame} {meth : Method} {c : Code} {D : va_G} {cy : Nat → ClassId} {B : Nat} {H0 : Heap} {Z : Nat → Nat}
set_option maxHeartbeats 4000000 in
set_option maxRecDepth 100000 in
theorem tl_L_law_1278 (X2 : gX p s m args meth c D cy B (gSt2 Z B H0) RL cL_law wsL_law 34) (hr : meth.sig.returnType = (some .boolean)) (hlx : l.stackTraces = false) (hH : ∀ q : Nat, q < B → s.heap[q]? = H0[q]?) (hne : ∀ x ∈ c.exceptionTable.toList, False) (hH0 : H0.size = B) {Q : State → Prop} : ∀ (M : gMem) (kc : Nat) (kn : Nat) (x2 : Option Nat) (x3 : Option Nat) (x4 : Int32) (x5 : Int32) (x6 : Int32) (x7 : Int32) (x10 : Option Nat) (x12 : Option Nat) (x21 : Int32) (x23 : Int32) (x26 : Int32) (x27 : Int32) (z : (gMem × Nat × Nat × Int32) ⊕ ((Nat ⊕ Int32) × gMem)), lp_L_law_1278 Z M kc kn x2 x3 x4 x5 x6 x7 x10 x12 x21 x23 x26 x27 = some z → (Sum.elim (fun (q : gMem × Nat × Nat × Int32) => gGo p l e rL_law s m args below meth c D cy B H0 34 q.2.1 q.2.2.1 Q 59 [(0, vR (some (Z 400))), (2, vR x2), (3, vR x3), (4, vI x4), (5, vI x5), (6, vI x6), (7, vI q.2.2.2)] [] q.1) (fun (r : (Nat ⊕ Int32) × gMem) => Q = gMX below D cy B H0 args s 600086 7301442 (gzI r.1) r.2)) z → gGo p l e rL_law s m args below meth c D cy B H0 34 kc kn Q 1278 [(0, vR (some (Z 400))), (2, vR x2), (3, vR x3), (4, vI x4), (5, vI x5), (6, vI x6), (7, vI x7), (10, vR x10), (12, vR x12), (21, vI x21), (23, vI x23), (26, vI x26), (27, vI x27)] [] M := by
  intro M kc kn x2 x3 x4 x5 x6 x7 x10 x12 x21 x23 x26 x27 z hf hK
  refine lp_ind (P := (fun (q : gMem × Nat × Nat × Int32 × Int32) (z : (gMem × Nat × Nat × Int32) ⊕ ((Nat ⊕ Int32) × gMem)) => (Sum.elim (fun (q : gMem × Nat × Nat × Int32) => gGo p l e rL_law s m args below meth c D cy B H0 34 q.2.1 q.2.2.1 Q 59 [(0, vR (some (Z 400))), (2, vR x2), (3, vR x3), (4, vI x4), (5, vI x5), (6, vI x6), (7, vI q.2.2.2)] [] q.1) (fun (r : (Nat ⊕ Int32) × gMem) => Q = gMX below D cy B H0 args s 600086 7301442 (gzI r.1) r.2)) z → gGo p l e rL_law s m args below meth c D cy B H0 34 q.2.1 q.2.2.1 Q 1278 [(0, vR (some (Z 400))), (2, vR x2), (3, vR x3), (4, vI x4), (5, vI x5), (6, vI x6), (7, vI x7), (10, vR x10), (12, vR x12), (21, vI x21), (23, vI x23), (26, vI q.2.2.2.1), (27, vI q.2.2.2.2)] [] q.1)) (fun q z hq => ?_) _ _ hf hK
  intro hK
  obtain ⟨w, hw, hm⟩ := hq
  refine tb_L_law_1278 X2 hr hlx hH hne hH0 _ _ _ _ _ _ _ _ _ _ _ _ _ _ _ w hw ?_
  cases w with
  | inl a => exact hm hK
  | inr b => cases hm; exact hK
set_option maxHeartbeats 4000000 in
set_option maxRecDepth 100000 in
theorem t_L_law_1266 (X2 : gX p s m args meth c D cy B (gSt2 Z B H0) RL cL_law wsL_law 34) (hr : meth.sig.returnType = (some .boolean)) (hlx : l.stackTraces = false) (hH : ∀ q : Nat, q < B → s.heap[q]? = H0[q]?) (hne : ∀ x ∈ c.exceptionTable.toList, False) (hH0 : H0.size = B) {Q : State → Prop} : ∀ (M : gMem) (kc : Nat) (kn : Nat) (x2 : Option Nat) (x3 : Option Nat) (x4 : Int32) (x5 : Int32) (x6 : Int32) (x7 : Int32) (x10 : Option Nat) (x11 : Option Nat) (x12 : Option Nat) (x19 : Int32) (x20 : Int32) (x21 : Int32) (x23 : Int32) (x24 : Option Nat) (x26 : Int32) (z : (gMem × Nat × Nat × Int32) ⊕ ((gMem × Nat × Nat × Int32) ⊕ ((Nat ⊕ Int32) × gMem))), b_L_law_1266 Z M kc kn x2 x3 x4 x5 x6 x7 x10 x11 x12 x19 x20 x21 x23 x24 x26 = some z → (Sum.elim (fun (q : gMem × Nat × Nat × Int32) => gGo p l e rL_law s m args below meth c D cy B H0 34 q.2.1 q.2.2.1 Q 1009 [(0, vR (some (Z 400))), (2, vR x2), (3, vR x3), (4, vI x4), (5, vI x5), (6, vI x6), (7, vI x7), (10, vR x10), (11, vR x11), (12, vR x12), (19, vI x19), (20, vI x20), (21, vI x21), (23, vI x23), (24, vR x24), (26, vI q.2.2.2)] [] q.1) (Sum.elim (fun (q : gMem × Nat × Nat × Int32) => gGo p l e rL_law s m args below meth c D cy B H0 34 q.2.1 q.2.2.1 Q 59 [(0, vR (some (Z 400))), (2, vR x2), (3, vR x3), (4, vI x4), (5, vI x5), (6, vI x6), (7, vI q.2.2.2)] [] q.1) (fun (r : (Nat ⊕ Int32) × gMem) => Q = gMX below D cy B H0 args s 600086 7301442 (gzI r.1) r.2))) z → gGo p l e rL_law s m args below meth c D cy B H0 34 kc kn Q 1266 [(0, vR (some (Z 400))), (2, vR x2), (3, vR x3), (4, vI x4), (5, vI x5), (6, vI x6), (7, vI x7), (10, vR x10), (11, vR x11), (12, vR x12), (19, vI x19), (20, vI x20), (21, vI x21), (23, vI x23), (24, vR x24), (26, vI x26)] [] M := by
  intro M kc kn x2 x3 x4 x5 x6 x7 x10 x11 x12 x19 x20 x21 x23 x24 x26 z hf hK
  unfold b_L_law_1266 at hf
  have X := gX_w X2
  refine g_iinc (v := (1 : Int32)) (lv' := [(26, vI (x26 + (1 : Int32))), (0, vR (some (Z 400))), (2, vR x2), (3, vR x3), (4, vI x4), (5, vI x5), (6, vI x6), (7, vI x7), (10, vR x10), (11, vR x11), (12, vR x12), (19, vI x19), (20, vI x20), (21, vI x21), (23, vI x23), (24, vR x24)]) X dL_law_1266 rfl (by decide) (by decide) rfl ?_
  refine g_goto (tgt := 1009) X dL_law_1269 (by decide) ?_
  cases hf
  refine g_sub (lvsub_of _ _ [1, 2, 3, 4, 5, 6, 7, 8, 9, 10, 11, 12, 13, 14, 15, 0] rfl) ?_
  exact hK
set_option maxHeartbeats 4000000 in
set_option maxRecDepth 100000 in
theorem t_L_law_1264 (X2 : gX p s m args meth c D cy B (gSt2 Z B H0) RL cL_law wsL_law 34) (hr : meth.sig.returnType = (some .boolean)) (hlx : l.stackTraces = false) (hH : ∀ q : Nat, q < B → s.heap[q]? = H0[q]?) (hne : ∀ x ∈ c.exceptionTable.toList, False) (hH0 : H0.size = B) {Q : State → Prop} : ∀ (M : gMem) (kc : Nat) (kn : Nat) (z : (Nat ⊕ Int32) × gMem), b_L_law_1264 Z M kc kn = some z → (fun (r : (Nat ⊕ Int32) × gMem) => Q = gMX below D cy B H0 args s 600086 7301442 (gzI r.1) r.2) z → gGo p l e rL_law s m args below meth c D cy B H0 34 kc kn Q 1264 [] [] M := by
  intro M kc kn z hf hK
  unfold b_L_law_1264 at hf
  have X := gX_w X2
  refine g_iconst (v := (0 : Int32)) X dL_law_1264 (by decide) ?_
  obtain ⟨hg114, hf⟩ := ck_e hf
  cases hf
  refine g_eqQ hK ?_
  refine g_wide (k' := 600086) (n' := 7301442) hg114.1 hg114.2 ?_
  refine g_xret ?_
  exact g_zret X hr (gnb (Or.inl rfl)) dL_law_1265
set_option maxHeartbeats 4000000 in
set_option maxRecDepth 100000 in
theorem t_L_law_1261 (X2 : gX p s m args meth c D cy B (gSt2 Z B H0) RL cL_law wsL_law 34) (hr : meth.sig.returnType = (some .boolean)) (hlx : l.stackTraces = false) (hH : ∀ q : Nat, q < B → s.heap[q]? = H0[q]?) (hne : ∀ x ∈ c.exceptionTable.toList, False) (hH0 : H0.size = B) {Q : State → Prop} : ∀ (M : gMem) (kc : Nat) (kn : Nat) (x2 : Option Nat) (x3 : Option Nat) (x4 : Int32) (x5 : Int32) (x6 : Int32) (x7 : Int32) (x10 : Option Nat) (x11 : Option Nat) (x12 : Option Nat) (x19 : Int32) (x20 : Int32) (x21 : Int32) (x23 : Int32) (x24 : Option Nat) (x26 : Int32) (s0 : Int32) (s1 : Int32) (z : (gMem × Nat × Nat × Int32) ⊕ ((gMem × Nat × Nat × Int32) ⊕ ((Nat ⊕ Int32) × gMem))), b_L_law_1261 Z M kc kn x2 x3 x4 x5 x6 x7 x10 x11 x12 x19 x20 x21 x23 x24 x26 s0 s1 = some z → (Sum.elim (fun (q : gMem × Nat × Nat × Int32) => gGo p l e rL_law s m args below meth c D cy B H0 34 q.2.1 q.2.2.1 Q 1009 [(0, vR (some (Z 400))), (2, vR x2), (3, vR x3), (4, vI x4), (5, vI x5), (6, vI x6), (7, vI x7), (10, vR x10), (11, vR x11), (12, vR x12), (19, vI x19), (20, vI x20), (21, vI x21), (23, vI x23), (24, vR x24), (26, vI q.2.2.2)] [] q.1) (Sum.elim (fun (q : gMem × Nat × Nat × Int32) => gGo p l e rL_law s m args below meth c D cy B H0 34 q.2.1 q.2.2.1 Q 59 [(0, vR (some (Z 400))), (2, vR x2), (3, vR x3), (4, vI x4), (5, vI x5), (6, vI x6), (7, vI q.2.2.2)] [] q.1) (fun (r : (Nat ⊕ Int32) × gMem) => Q = gMX below D cy B H0 args s 600086 7301442 (gzI r.1) r.2))) z → gGo p l e rL_law s m args below meth c D cy B H0 34 kc kn Q 1261 [(0, vR (some (Z 400))), (2, vR x2), (3, vR x3), (4, vI x4), (5, vI x5), (6, vI x6), (7, vI x7), (10, vR x10), (11, vR x11), (12, vR x12), (19, vI x19), (20, vI x20), (21, vI x21), (23, vI x23), (24, vR x24), (26, vI x26)] [vI s1, vI s0] M := by
  intro M kc kn x2 x3 x4 x5 x6 x7 x10 x11 x12 x19 x20 x21 x23 x24 x26 s0 s1 z hf hK
  unfold b_L_law_1261 at hf
  have X := gX_w X2
  refine g_icmp_eq (tgt := 1266) X dL_law_1261 (by decide) (fun hc => ?_) (fun hc => ?_)
  · have hf := ife_t hc hf
    refine g_sub (lvsub_of _ _ [0, 1, 2, 3, 4, 5, 6, 7, 8, 9, 10, 11, 12, 13, 14, 15] rfl) ?_
    exact t_L_law_1266 X2 hr hlx hH hne hH0 _ _ _ _ _ _ _ _ _ _ _ _ _ _ _ _ _ _ _ hf hK
  · have hf := ife_f hc hf
    obtain ⟨w115, hw115, hz115⟩ := oI_e hf
    subst hz115
    have hf := hw115
    obtain ⟨w116, hw116, hz116⟩ := oI_e hf
    subst hz116
    have hf := hw116
    refine g_sub (lvsub_of _ _ [] rfl) ?_
    exact t_L_law_1264 X2 hr hlx hH hne hH0 _ _ _ _ hf hK
set_option maxHeartbeats 4000000 in
set_option maxRecDepth 100000 in
theorem t_L_law_1251 (X2 : gX p s m args meth c D cy B (gSt2 Z B H0) RL cL_law wsL_law 34) (hr : meth.sig.returnType = (some .boolean)) (hlx : l.stackTraces = false) (hH : ∀ q : Nat, q < B → s.heap[q]? = H0[q]?) (hne : ∀ x ∈ c.exceptionTable.toList, False) (hH0 : H0.size = B) {Q : State → Prop} : ∀ (M : gMem) (kc : Nat) (kn : Nat) (x2 : Option Nat) (x3 : Option Nat) (x4 : Int32) (x5 : Int32) (x6 : Int32) (x7 : Int32) (x10 : Option Nat) (x11 : Option Nat) (x12 : Option Nat) (x19 : Int32) (x20 : Int32) (x21 : Int32) (x23 : Int32) (x24 : Option Nat) (x26 : Int32) (x29 : Int32) (s0 : Int32) (z : (gMem × Nat × Nat × Int32) ⊕ ((gMem × Nat × Nat × Int32) ⊕ ((Nat ⊕ Int32) × gMem))), b_L_law_1251 Z M kc kn x2 x3 x4 x5 x6 x7 x10 x11 x12 x19 x20 x21 x23 x24 x26 x29 s0 = some z → (Sum.elim (fun (q : gMem × Nat × Nat × Int32) => gGo p l e rL_law s m args below meth c D cy B H0 34 q.2.1 q.2.2.1 Q 1009 [(0, vR (some (Z 400))), (2, vR x2), (3, vR x3), (4, vI x4), (5, vI x5), (6, vI x6), (7, vI x7), (10, vR x10), (11, vR x11), (12, vR x12), (19, vI x19), (20, vI x20), (21, vI x21), (23, vI x23), (24, vR x24), (26, vI q.2.2.2)] [] q.1) (Sum.elim (fun (q : gMem × Nat × Nat × Int32) => gGo p l e rL_law s m args below meth c D cy B H0 34 q.2.1 q.2.2.1 Q 59 [(0, vR (some (Z 400))), (2, vR x2), (3, vR x3), (4, vI x4), (5, vI x5), (6, vI x6), (7, vI q.2.2.2)] [] q.1) (fun (r : (Nat ⊕ Int32) × gMem) => Q = gMX below D cy B H0 args s 600086 7301442 (gzI r.1) r.2))) z → gGo p l e rL_law s m args below meth c D cy B H0 34 kc kn Q 1251 [(0, vR (some (Z 400))), (2, vR x2), (3, vR x3), (4, vI x4), (5, vI x5), (6, vI x6), (7, vI x7), (10, vR x10), (11, vR x11), (12, vR x12), (19, vI x19), (20, vI x20), (21, vI x21), (23, vI x23), (24, vR x24), (26, vI x26), (29, vI x29)] [vI s0] M := by
  intro M kc kn x2 x3 x4 x5 x6 x7 x10 x11 x12 x19 x20 x21 x23 x24 x26 x29 s0 z hf hK
  unfold b_L_law_1251 at hf
  have X := gX_w X2
  refine g_iload X dL_law_1251 rfl ?_
  refine g_if_ne (tgt := 1260) X dL_law_1253 (by decide) (fun hc => ?_) (fun hc => ?_)
  · have hf := ife_f hc hf
    refine g_iconst (v := (0 : Int32)) X dL_law_1260 (by decide) ?_
    refine g_sub (lvsub_of _ _ [0, 1, 2, 3, 4, 5, 6, 7, 8, 9, 10, 11, 12, 13, 14, 15] rfl) ?_
    exact t_L_law_1261 X2 hr hlx hH hne hH0 _ _ _ _ _ _ _ _ _ _ _ _ _ _ _ _ _ _ _ _ _ hf hK
  · have hf := ife_t hc hf
    refine g_iconst (v := (1 : Int32)) X dL_law_1256 (by decide) ?_
    refine g_goto (tgt := 1261) X dL_law_1257 (by decide) ?_
    refine g_sub (lvsub_of _ _ [0, 1, 2, 3, 4, 5, 6, 7, 8, 9, 10, 11, 12, 13, 14, 15] rfl) ?_
    exact t_L_law_1261 X2 hr hlx hH hne hH0 _ _ _ _ _ _ _ _ _ _ _ _ _ _ _ _ _ _ _ _ _ hf hK
set_option maxHeartbeats 4000000 in
set_option maxRecDepth 100000 in
theorem t_L_law_1208 (X2 : gX p s m args meth c D cy B (gSt2 Z B H0) RL cL_law wsL_law 34) (hr : meth.sig.returnType = (some .boolean)) (hlx : l.stackTraces = false) (hH : ∀ q : Nat, q < B → s.heap[q]? = H0[q]?) (hne : ∀ x ∈ c.exceptionTable.toList, False) (hH0 : H0.size = B) {Q : State → Prop} : ∀ (M : gMem) (kc : Nat) (kn : Nat) (z : (Nat ⊕ Int32) × gMem), b_L_law_1208 Z M kc kn = some z → (fun (r : (Nat ⊕ Int32) × gMem) => Q = gMX below D cy B H0 args s 600086 7301442 (gzI r.1) r.2) z → gGo p l e rL_law s m args below meth c D cy B H0 34 kc kn Q 1208 [] [] M := by
  intro M kc kn z hf hK
  unfold b_L_law_1208 at hf
  have X := gX_w X2
  refine g_iconst (v := (0 : Int32)) X dL_law_1208 (by decide) ?_
  obtain ⟨hg117, hf⟩ := ck_e hf
  cases hf
  refine g_eqQ hK ?_
  refine g_wide (k' := 600086) (n' := 7301442) hg117.1 hg117.2 ?_
  refine g_xret ?_
  exact g_zret X hr (gnb (Or.inl rfl)) dL_law_1209
set_option maxHeartbeats 4000000 in
set_option maxRecDepth 100000 in
theorem tb_L_law_1164 (X2 : gX p s m args meth c D cy B (gSt2 Z B H0) RL cL_law wsL_law 34) (hr : meth.sig.returnType = (some .boolean)) (hlx : l.stackTraces = false) (hH : ∀ q : Nat, q < B → s.heap[q]? = H0[q]?) (hne : ∀ x ∈ c.exceptionTable.toList, False) (hH0 : H0.size = B) {Q : State → Prop} : ∀ (M : gMem) (kc : Nat) (kn : Nat) (x2 : Option Nat) (x3 : Option Nat) (x4 : Int32) (x5 : Int32) (x6 : Int32) (x7 : Int32) (x10 : Option Nat) (x11 : Option Nat) (x12 : Option Nat) (x19 : Int32) (x20 : Int32) (x21 : Int32) (x23 : Int32) (x24 : Option Nat) (x26 : Int32) (x29 : Int32) (x30 : Int32) (z : (gMem × Nat × Nat × Int32 × Int32) ⊕ ((gMem × Nat × Nat × Int32) ⊕ ((gMem × Nat × Nat × Int32) ⊕ ((Nat ⊕ Int32) × gMem)))), bb_L_law_1164 Z M kc kn x2 x3 x4 x5 x6 x7 x10 x11 x12 x19 x20 x21 x23 x24 x26 x29 x30 = some z → (Sum.elim (fun (q : gMem × Nat × Nat × Int32 × Int32) => gGo p l e rL_law s m args below meth c D cy B H0 34 q.2.1 q.2.2.1 Q 1164 [(0, vR (some (Z 400))), (2, vR x2), (3, vR x3), (4, vI x4), (5, vI x5), (6, vI x6), (7, vI x7), (10, vR x10), (11, vR x11), (12, vR x12), (19, vI x19), (20, vI x20), (21, vI x21), (23, vI x23), (24, vR x24), (26, vI x26), (29, vI q.2.2.2.1), (30, vI q.2.2.2.2)] [] q.1) (Sum.elim (fun (q : gMem × Nat × Nat × Int32) => gGo p l e rL_law s m args below meth c D cy B H0 34 q.2.1 q.2.2.1 Q 1009 [(0, vR (some (Z 400))), (2, vR x2), (3, vR x3), (4, vI x4), (5, vI x5), (6, vI x6), (7, vI x7), (10, vR x10), (11, vR x11), (12, vR x12), (19, vI x19), (20, vI x20), (21, vI x21), (23, vI x23), (24, vR x24), (26, vI q.2.2.2)] [] q.1) (Sum.elim (fun (q : gMem × Nat × Nat × Int32) => gGo p l e rL_law s m args below meth c D cy B H0 34 q.2.1 q.2.2.1 Q 59 [(0, vR (some (Z 400))), (2, vR x2), (3, vR x3), (4, vI x4), (5, vI x5), (6, vI x6), (7, vI q.2.2.2)] [] q.1) (fun (r : (Nat ⊕ Int32) × gMem) => Q = gMX below D cy B H0 args s 600086 7301442 (gzI r.1) r.2)))) z → gGo p l e rL_law s m args below meth c D cy B H0 34 kc kn Q 1164 [(0, vR (some (Z 400))), (2, vR x2), (3, vR x3), (4, vI x4), (5, vI x5), (6, vI x6), (7, vI x7), (10, vR x10), (11, vR x11), (12, vR x12), (19, vI x19), (20, vI x20), (21, vI x21), (23, vI x23), (24, vR x24), (26, vI x26), (29, vI x29), (30, vI x30)] [] M := by
  intro M kc kn x2 x3 x4 x5 x6 x7 x10 x11 x12 x19 x20 x21 x23 x24 x26 x29 x30 z hf hK
  unfold bb_L_law_1164 at hf
  have X := gX_w X2
  refine g_iload X dL_law_1164 rfl ?_
  refine g_bipush (v := (6 : Int32)) X dL_law_1166 (by decide) ?_
  refine g_icmp_ge (tgt := 1216) X dL_law_1168 (by decide) (fun hc => ?_) (fun hc => ?_)
  · have hf := ife_t hc hf
    refine g_iload X dL_law_1216 rfl ?_
    refine g_aload_n X dL_law_1218 rfl rfl ?_
    refine g_iload X dL_law_1219 rfl ?_
    refine g_iconst (v := (0 : Int32)) X dL_law_1221 (by decide) ?_
    obtain ⟨a119, ha119, hf⟩ := dr_e hf
    obtain ⟨hT120, hf⟩ := ck_e hf
    obtain ⟨hg121, hf⟩ := ck_e hf
    rcases bx_e hf with ⟨e118, M118, hq118, hf⟩ | ⟨r118, M118, hq118, hf⟩
    · obtain ⟨w122, hw122, hz122⟩ := oI_e hf
      subst hz122
      have hf := hw122
      obtain ⟨w123, hw123, hz123⟩ := oI_e hf
      subst hz123
      have hf := hw123
      obtain ⟨w124, hw124, hz124⟩ := oI_e hf
      subst hz124
      have hf := hw124
      cases hf
      refine g_eqQ hK ?_
      exact g_callTV (ci := 9) (b := a119) (As := [vI x26, vI (0 : Int32)]) (st := [vI x29]) (M1 := M118) X2 hne (m_X11_ground l hlx hH0 hq118) (cwV 2 X.2.2.1 gL_law_X11_ground rfl rfl rfl (by decide +kernel) ⟨Nat.le_of_ble_eq_true rfl, Nat.le_of_ble_eq_true rfl⟩) rfl rfl ha119 hT120 (by decide) rfl (Nat.le_of_ble_eq_true rfl) dL_law_1222 ⟨hg121.1, hg121.2⟩ hg121.1 hg121.2
    refine g_callXV (ci := 9) (b := a119) (As := [vI x26, vI (0 : Int32)]) (st := [vI x29]) (v := some (vI r118)) (M1 := M118) X2 (m_X11_ground l hlx hH0 hq118) (cwV 2 X.2.2.1 gL_law_X11_ground rfl rfl rfl (by decide +kernel) ⟨Nat.le_of_ble_eq_true rfl, Nat.le_of_ble_eq_true rfl⟩) rfl rfl ha119 hT120 (by decide) rfl (Nat.le_of_ble_eq_true rfl) dL_law_1222 ⟨hg121.1, hg121.2⟩ ?_
    refine g_icmp_ne (tgt := 1264) X dL_law_1225 (by decide) (fun hc => ?_) (fun hc => ?_)
    · have hf := ife_f hc hf
      obtain ⟨w125, hw125, hz125⟩ := oI_e hf
      subst hz125
      have hf := hw125
      obtain ⟨w126, hw126, hz126⟩ := oI_e hf
      subst hz126
      have hf := hw126
      obtain ⟨w127, hw127, hz127⟩ := oI_e hf
      subst hz127
      have hf := hw127
      refine g_sub (lvsub_of _ _ [] rfl) ?_
      exact t_L_law_1264 X2 hr hlx hH hne hH0 _ _ _ _ hf hK
    · have hf := ife_t hc hf
      refine g_iload X dL_law_1228 rfl ?_
      refine g_iload X dL_law_1230 rfl ?_
      refine g_icmp_ne (tgt := 1266) X dL_law_1232 (by decide) (fun hc => ?_) (fun hc => ?_)
      · have hf := ife_f hc hf
        obtain ⟨w128, hw128, hz128⟩ := oI_e hf
        subst hz128
        have hf := hw128
        refine g_sub (lvsub_of _ _ [0, 1, 2, 3, 4, 5, 6, 7, 8, 9, 10, 11, 12, 13, 14, 15] rfl) ?_
        exact t_L_law_1266 X2 hr hlx hH hne hH0 _ _ _ _ _ _ _ _ _ _ _ _ _ _ _ _ _ _ _ hf hK
      · have hf := ife_t hc hf
        refine g_iload X dL_law_1235 rfl ?_
        refine g_if_le (tgt := 1266) X dL_law_1237 (by decide) (fun hc => ?_) (fun hc => ?_)
        · have hf := ife_t hc hf
          obtain ⟨w129, hw129, hz129⟩ := oI_e hf
          subst hz129
          have hf := hw129
          refine g_sub (lvsub_of _ _ [0, 1, 2, 3, 4, 5, 6, 7, 8, 9, 10, 11, 12, 13, 14, 15] rfl) ?_
          exact t_L_law_1266 X2 hr hlx hH hne hH0 _ _ _ _ _ _ _ _ _ _ _ _ _ _ _ _ _ _ _ hf hK
        · have hf := ife_f hc hf
          refine g_iload X dL_law_1240 rfl ?_
          refine g_iconst (v := (1 : Int32)) X dL_law_1242 (by decide) ?_
          refine g_icmp_ne (tgt := 1250) X dL_law_1243 (by decide) (fun hc => ?_) (fun hc => ?_)
          · have hf := ife_f hc hf
            refine g_iconst (v := (0 : Int32)) X dL_law_1250 (by decide) ?_
            obtain ⟨w130, hw130, hz130⟩ := oI_e hf
            subst hz130
            have hf := hw130
            refine g_sub (lvsub_of _ _ [0, 1, 2, 3, 4, 5, 6, 7, 8, 9, 10, 11, 12, 13, 14, 15, 16] rfl) ?_
            exact t_L_law_1251 X2 hr hlx hH hne hH0 _ _ _ _ _ _ _ _ _ _ _ _ _ _ _ _ _ _ _ _ _ hf hK
          · have hf := ife_t hc hf
            refine g_iconst (v := (1 : Int32)) X dL_law_1246 (by decide) ?_
            refine g_goto (tgt := 1251) X dL_law_1247 (by decide) ?_
            obtain ⟨w131, hw131, hz131⟩ := oI_e hf
            subst hz131
            have hf := hw131
            refine g_sub (lvsub_of _ _ [0, 1, 2, 3, 4, 5, 6, 7, 8, 9, 10, 11, 12, 13, 14, 15, 16] rfl) ?_
            exact t_L_law_1251 X2 hr hlx hH hne hH0 _ _ _ _ _ _ _ _ _ _ _ _ _ _ _ _ _ _ _ _ _ hf hK
  · have hf := ife_f hc hf
    refine g_iload X dL_law_1171 rfl ?_
    refine g_aload_n X dL_law_1173 rfl rfl ?_
    refine g_iload X dL_law_1174 rfl ?_
    refine g_iload X dL_law_1176 rfl ?_
    obtain ⟨a133, ha133, hf⟩ := dr_e hf
    obtain ⟨hT134, hf⟩ := ck_e hf
    obtain ⟨hg135, hf⟩ := ck_e hf
    rcases bx_e hf with ⟨e132, M132, hq132, hf⟩ | ⟨r132, M132, hq132, hf⟩
    · obtain ⟨w136, hw136, hz136⟩ := oI_e hf
      subst hz136
      have hf := hw136
      obtain ⟨w137, hw137, hz137⟩ := oI_e hf
      subst hz137
      have hf := hw137
      obtain ⟨w138, hw138, hz138⟩ := oI_e hf
      subst hz138
      have hf := hw138
      cases hf
      refine g_eqQ hK ?_
      exact g_callTV (ci := 9) (b := a133) (As := [vI x26, vI x30]) (st := [vI x29]) (M1 := M132) X2 hne (m_X11_ground l hlx hH0 hq132) (cwV 2 X.2.2.1 gL_law_X11_ground rfl rfl rfl (by decide +kernel) ⟨Nat.le_of_ble_eq_true rfl, Nat.le_of_ble_eq_true rfl⟩) rfl rfl ha133 hT134 (by decide) rfl (Nat.le_of_ble_eq_true rfl) dL_law_1178 ⟨hg135.1, hg135.2⟩ hg135.1 hg135.2
    refine g_callXV (ci := 9) (b := a133) (As := [vI x26, vI x30]) (st := [vI x29]) (v := some (vI r132)) (M1 := M132) X2 (m_X11_ground l hlx hH0 hq132) (cwV 2 X.2.2.1 gL_law_X11_ground rfl rfl rfl (by decide +kernel) ⟨Nat.le_of_ble_eq_true rfl, Nat.le_of_ble_eq_true rfl⟩) rfl rfl ha133 hT134 (by decide) rfl (Nat.le_of_ble_eq_true rfl) dL_law_1178 ⟨hg135.1, hg135.2⟩ ?_
    refine g_iadd X dL_law_1181 ?_
    refine g_istore (lv' := [(29, vI (x29 + r132)), (0, vR (some (Z 400))), (2, vR x2), (3, vR x3), (4, vI x4), (5, vI x5), (6, vI x6), (7, vI x7), (10, vR x10), (11, vR x11), (12, vR x12), (19, vI x19), (20, vI x20), (21, vI x21), (23, vI x23), (24, vR x24), (26, vI x26), (30, vI x30)]) X dL_law_1182 (by decide) rfl ?_
    refine g_aload_n X dL_law_1184 rfl rfl ?_
    refine g_iload X dL_law_1185 rfl ?_
    refine g_iload X dL_law_1187 rfl ?_
    obtain ⟨hT140, hf⟩ := ck_e hf
    obtain ⟨hg141, hf⟩ := ck_e hf
    rcases bx_e hf with ⟨e139, M139, hq139, hf⟩ | ⟨r139, M139, hq139, hf⟩
    · obtain ⟨w142, hw142, hz142⟩ := oI_e hf
      subst hz142
      have hf := hw142
      obtain ⟨w143, hw143, hz143⟩ := oI_e hf
      subst hz143
      have hf := hw143
      obtain ⟨w144, hw144, hz144⟩ := oI_e hf
      subst hz144
      have hf := hw144
      cases hf
      refine g_eqQ hK ?_
      exact g_callTV (ci := 9) (b := a133) (As := [vI x26, vI x30]) (st := []) (M1 := M139) X2 hne (m_X11_ground l hlx hH0 hq139) (cwV 2 X.2.2.1 gL_law_X11_ground rfl rfl rfl (by decide +kernel) ⟨Nat.le_of_ble_eq_true rfl, Nat.le_of_ble_eq_true rfl⟩) rfl rfl ha133 hT140 (by decide) rfl (Nat.le_of_ble_eq_true rfl) dL_law_1189 ⟨hg141.1, hg141.2⟩ hg141.1 hg141.2
    refine g_callXV (ci := 9) (b := a133) (As := [vI x26, vI x30]) (st := []) (v := some (vI r139)) (M1 := M139) X2 (m_X11_ground l hlx hH0 hq139) (cwV 2 X.2.2.1 gL_law_X11_ground rfl rfl rfl (by decide +kernel) ⟨Nat.le_of_ble_eq_true rfl, Nat.le_of_ble_eq_true rfl⟩) rfl rfl ha133 hT140 (by decide) rfl (Nat.le_of_ble_eq_true rfl) dL_law_1189 ⟨hg141.1, hg141.2⟩ ?_
    refine g_if_lt (tgt := 1208) X dL_law_1192 (by decide) (fun hc => ?_) (fun hc => ?_)
    · have hf := ife_t hc hf
      obtain ⟨w145, hw145, hz145⟩ := oI_e hf
      subst hz145
      have hf := hw145
      obtain ⟨w146, hw146, hz146⟩ := oI_e hf
      subst hz146
      have hf := hw146
      obtain ⟨w147, hw147, hz147⟩ := oI_e hf
      subst hz147
      have hf := hw147
      refine g_sub (lvsub_of _ _ [] rfl) ?_
      exact t_L_law_1208 X2 hr hlx hH hne hH0 _ _ _ _ hf hK
    · have hf := ife_f hc hf
      refine g_aload_n X dL_law_1195 rfl rfl ?_
      refine g_iload X dL_law_1196 rfl ?_
      refine g_iload X dL_law_1198 rfl ?_
      obtain ⟨hT149, hf⟩ := ck_e hf
      obtain ⟨hg150, hf⟩ := ck_e hf
      rcases bx_e hf with ⟨e148, M148, hq148, hf⟩ | ⟨r148, M148, hq148, hf⟩
      · obtain ⟨w151, hw151, hz151⟩ := oI_e hf
        subst hz151
        have hf := hw151
        obtain ⟨w152, hw152, hz152⟩ := oI_e hf
        subst hz152
        have hf := hw152
        obtain ⟨w153, hw153, hz153⟩ := oI_e hf
        subst hz153
        have hf := hw153
        cases hf
        refine g_eqQ hK ?_
        exact g_callTV (ci := 9) (b := a133) (As := [vI x26, vI x30]) (st := []) (M1 := M148) X2 hne (m_X11_ground l hlx hH0 hq148) (cwV 2 X.2.2.1 gL_law_X11_ground rfl rfl rfl (by decide +kernel) ⟨Nat.le_of_ble_eq_true rfl, Nat.le_of_ble_eq_true rfl⟩) rfl rfl ha133 hT149 (by decide) rfl (Nat.le_of_ble_eq_true rfl) dL_law_1200 ⟨hg150.1, hg150.2⟩ hg150.1 hg150.2
      refine g_callXV (ci := 9) (b := a133) (As := [vI x26, vI x30]) (st := []) (v := some (vI r148)) (M1 := M148) X2 (m_X11_ground l hlx hH0 hq148) (cwV 2 X.2.2.1 gL_law_X11_ground rfl rfl rfl (by decide +kernel) ⟨Nat.le_of_ble_eq_true rfl, Nat.le_of_ble_eq_true rfl⟩) rfl rfl ha133 hT149 (by decide) rfl (Nat.le_of_ble_eq_true rfl) dL_law_1200 ⟨hg150.1, hg150.2⟩ ?_
      refine g_bipush (v := (99 : Int32)) X dL_law_1203 (by decide) ?_
      refine g_icmp_le (tgt := 1210) X dL_law_1205 (by decide) (fun hc => ?_) (fun hc => ?_)
      · have hf := ife_t hc hf
        refine g_iinc (v := (1 : Int32)) (lv' := [(30, vI (x30 + (1 : Int32))), (29, vI (x29 + r132)), (0, vR (some (Z 400))), (2, vR x2), (3, vR x3), (4, vI x4), (5, vI x5), (6, vI x6), (7, vI x7), (10, vR x10), (11, vR x11), (12, vR x12), (19, vI x19), (20, vI x20), (21, vI x21), (23, vI x23), (24, vR x24), (26, vI x26)]) X dL_law_1210 rfl (by decide) (by decide) rfl ?_
        refine g_goto (tgt := 1164) X dL_law_1213 (by decide) ?_
        cases hf
        refine g_sub (lvsub_of _ _ [2, 3, 4, 5, 6, 7, 8, 9, 10, 11, 12, 13, 14, 15, 16, 17, 1, 0] rfl) ?_
        exact hK
      · have hf := ife_f hc hf
        obtain ⟨w154, hw154, hz154⟩ := oI_e hf
        subst hz154
        have hf := hw154
        obtain ⟨w155, hw155, hz155⟩ := oI_e hf
        subst hz155
        have hf := hw155
        obtain ⟨w156, hw156, hz156⟩ := oI_e hf
        subst hz156
        have hf := hw156
        refine g_sub (lvsub_of _ _ [] rfl) ?_
        exact t_L_law_1208 X2 hr hlx hH hne hH0 _ _ _ _ hf hK
set_option maxHeartbeats 4000000 in
set_option maxRecDepth 100000 in
theorem tl_L_law_1164 (X2 : gX p s m args meth c D cy B (gSt2 Z B H0) RL cL_law wsL_law 34) (hr : meth.sig.returnType = (some .boolean)) (hlx : l.stackTraces = false) (hH : ∀ q : Nat, q < B → s.heap[q]? = H0[q]?) (hne : ∀ x ∈ c.exceptionTable.toList, False) (hH0 : H0.size = B) {Q : State → Prop} : ∀ (M : gMem) (kc : Nat) (kn : Nat) (x2 : Option Nat) (x3 : Option Nat) (x4 : Int32) (x5 : Int32) (x6 : Int32) (x7 : Int32) (x10 : Option Nat) (x11 : Option Nat) (x12 : Option Nat) (x19 : Int32) (x20 : Int32) (x21 : Int32) (x23 : Int32) (x24 : Option Nat) (x26 : Int32) (x29 : Int32) (x30 : Int32) (z : (gMem × Nat × Nat × Int32) ⊕ ((gMem × Nat × Nat × Int32) ⊕ ((Nat ⊕ Int32) × gMem))), lp_L_law_1164 Z M kc kn x2 x3 x4 x5 x6 x7 x10 x11 x12 x19 x20 x21 x23 x24 x26 x29 x30 = some z → (Sum.elim (fun (q : gMem × Nat × Nat × Int32) => gGo p l e rL_law s m args below meth c D cy B H0 34 q.2.1 q.2.2.1 Q 1009 [(0, vR (some (Z 400))), (2, vR x2), (3, vR x3), (4, vI x4), (5, vI x5), (6, vI x6), (7, vI x7), (10, vR x10), (11, vR x11), (12, vR x12), (19, vI x19), (20, vI x20), (21, vI x21), (23, vI x23), (24, vR x24), (26, vI q.2.2.2)] [] q.1) (Sum.elim (fun (q : gMem × Nat × Nat × Int32) => gGo p l e rL_law s m args below meth c D cy B H0 34 q.2.1 q.2.2.1 Q 59 [(0, vR (some (Z 400))), (2, vR x2), (3, vR x3), (4, vI x4), (5, vI x5), (6, vI x6), (7, vI q.2.2.2)] [] q.1) (fun (r : (Nat ⊕ Int32) × gMem) => Q = gMX below D cy B H0 args s 600086 7301442 (gzI r.1) r.2))) z → gGo p l e rL_law s m args below meth c D cy B H0 34 kc kn Q 1164 [(0, vR (some (Z 400))), (2, vR x2), (3, vR x3), (4, vI x4), (5, vI x5), (6, vI x6), (7, vI x7), (10, vR x10), (11, vR x11), (12, vR x12), (19, vI x19), (20, vI x20), (21, vI x21), (23, vI x23), (24, vR x24), (26, vI x26), (29, vI x29), (30, vI x30)] [] M := by
  intro M kc kn x2 x3 x4 x5 x6 x7 x10 x11 x12 x19 x20 x21 x23 x24 x26 x29 x30 z hf hK
  refine lp_ind (P := (fun (q : gMem × Nat × Nat × Int32 × Int32) (z : (gMem × Nat × Nat × Int32) ⊕ ((gMem × Nat × Nat × Int32) ⊕ ((Nat ⊕ Int32) × gMem))) => (Sum.elim (fun (q : gMem × Nat × Nat × Int32) => gGo p l e rL_law s m args below meth c D cy B H0 34 q.2.1 q.2.2.1 Q 1009 [(0, vR (some (Z 400))), (2, vR x2), (3, vR x3), (4, vI x4), (5, vI x5), (6, vI x6), (7, vI x7), (10, vR x10), (11, vR x11), (12, vR x12), (19, vI x19), (20, vI x20), (21, vI x21), (23, vI x23), (24, vR x24), (26, vI q.2.2.2)] [] q.1) (Sum.elim (fun (q : gMem × Nat × Nat × Int32) => gGo p l e rL_law s m args below meth c D cy B H0 34 q.2.1 q.2.2.1 Q 59 [(0, vR (some (Z 400))), (2, vR x2), (3, vR x3), (4, vI x4), (5, vI x5), (6, vI x6), (7, vI q.2.2.2)] [] q.1) (fun (r : (Nat ⊕ Int32) × gMem) => Q = gMX below D cy B H0 args s 600086 7301442 (gzI r.1) r.2))) z → gGo p l e rL_law s m args below meth c D cy B H0 34 q.2.1 q.2.2.1 Q 1164 [(0, vR (some (Z 400))), (2, vR x2), (3, vR x3), (4, vI x4), (5, vI x5), (6, vI x6), (7, vI x7), (10, vR x10), (11, vR x11), (12, vR x12), (19, vI x19), (20, vI x20), (21, vI x21), (23, vI x23), (24, vR x24), (26, vI x26), (29, vI q.2.2.2.1), (30, vI q.2.2.2.2)] [] q.1)) (fun q z hq => ?_) _ _ hf hK
  intro hK
  obtain ⟨w, hw, hm⟩ := hq
  refine tb_L_law_1164 X2 hr hlx hH hne hH0 _ _ _ _ _ _ _ _ _ _ _ _ _ _ _ _ _ _ _ _ w hw ?_
  cases w with
  | inl a => exact hm hK
  | inr b => cases hm; exact hK
set_option maxHeartbeats 4000000 in
set_option maxRecDepth 100000 in
theorem t_L_law_1158 (X2 : gX p s m args meth c D cy B (gSt2 Z B H0) RL cL_law wsL_law 34) (hr : meth.sig.returnType = (some .boolean)) (hlx : l.stackTraces = false) (hH : ∀ q : Nat, q < B → s.heap[q]? = H0[q]?) (hne : ∀ x ∈ c.exceptionTable.toList, False) (hH0 : H0.size = B) {Q : State → Prop} : ∀ (M : gMem) (kc : Nat) (kn : Nat) (x2 : Option Nat) (x3 : Option Nat) (x4 : Int32) (x5 : Int32) (x6 : Int32) (x7 : Int32) (x10 : Option Nat) (x11 : Option Nat) (x12 : Option Nat) (x19 : Int32) (x20 : Int32) (x21 : Int32) (x23 : Int32) (x24 : Option Nat) (x26 : Int32) (z : (gMem × Nat × Nat × Int32) ⊕ ((gMem × Nat × Nat × Int32) ⊕ ((Nat ⊕ Int32) × gMem))), b_L_law_1158 Z M kc kn x2 x3 x4 x5 x6 x7 x10 x11 x12 x19 x20 x21 x23 x24 x26 = some z → (Sum.elim (fun (q : gMem × Nat × Nat × Int32) => gGo p l e rL_law s m args below meth c D cy B H0 34 q.2.1 q.2.2.1 Q 1009 [(0, vR (some (Z 400))), (2, vR x2), (3, vR x3), (4, vI x4), (5, vI x5), (6, vI x6), (7, vI x7), (10, vR x10), (11, vR x11), (12, vR x12), (19, vI x19), (20, vI x20), (21, vI x21), (23, vI x23), (24, vR x24), (26, vI q.2.2.2)] [] q.1) (Sum.elim (fun (q : gMem × Nat × Nat × Int32) => gGo p l e rL_law s m args below meth c D cy B H0 34 q.2.1 q.2.2.1 Q 59 [(0, vR (some (Z 400))), (2, vR x2), (3, vR x3), (4, vI x4), (5, vI x5), (6, vI x6), (7, vI q.2.2.2)] [] q.1) (fun (r : (Nat ⊕ Int32) × gMem) => Q = gMX below D cy B H0 args s 600086 7301442 (gzI r.1) r.2))) z → gGo p l e rL_law s m args below meth c D cy B H0 34 kc kn Q 1158 [(0, vR (some (Z 400))), (2, vR x2), (3, vR x3), (4, vI x4), (5, vI x5), (6, vI x6), (7, vI x7), (10, vR x10), (11, vR x11), (12, vR x12), (19, vI x19), (20, vI x20), (21, vI x21), (23, vI x23), (24, vR x24), (26, vI x26)] [] M := by
  intro M kc kn x2 x3 x4 x5 x6 x7 x10 x11 x12 x19 x20 x21 x23 x24 x26 z hf hK
  unfold b_L_law_1158 at hf
  have X := gX_w X2
  refine g_iconst (v := (0 : Int32)) X dL_law_1158 (by decide) ?_
  refine g_istore (lv' := [(29, vI (0 : Int32)), (0, vR (some (Z 400))), (2, vR x2), (3, vR x3), (4, vI x4), (5, vI x5), (6, vI x6), (7, vI x7), (10, vR x10), (11, vR x11), (12, vR x12), (19, vI x19), (20, vI x20), (21, vI x21), (23, vI x23), (24, vR x24), (26, vI x26)]) X dL_law_1159 (by decide) rfl ?_
  refine g_iconst (v := (1 : Int32)) X dL_law_1161 (by decide) ?_
  refine g_istore (lv' := [(30, vI (1 : Int32)), (29, vI (0 : Int32)), (0, vR (some (Z 400))), (2, vR x2), (3, vR x3), (4, vI x4), (5, vI x5), (6, vI x6), (7, vI x7), (10, vR x10), (11, vR x11), (12, vR x12), (19, vI x19), (20, vI x20), (21, vI x21), (23, vI x23), (24, vR x24), (26, vI x26)]) X dL_law_1162 (by decide) rfl ?_
  refine g_sub (lvsub_of _ _ [2, 3, 4, 5, 6, 7, 8, 9, 10, 11, 12, 13, 14, 15, 16, 17, 1, 0] rfl) ?_
  exact tl_L_law_1164 X2 hr hlx hH hne hH0 _ _ _ _ _ _ _ _ _ _ _ _ _ _ _ _ _ _ _ _ _ hf hK
set_option maxHeartbeats 4000000 in
set_option maxRecDepth 100000 in
theorem t_L_law_1156 (X2 : gX p s m args meth c D cy B (gSt2 Z B H0) RL cL_law wsL_law 34) (hr : meth.sig.returnType = (some .boolean)) (hlx : l.stackTraces = false) (hH : ∀ q : Nat, q < B → s.heap[q]? = H0[q]?) (hne : ∀ x ∈ c.exceptionTable.toList, False) (hH0 : H0.size = B) {Q : State → Prop} : ∀ (M : gMem) (kc : Nat) (kn : Nat) (z : (Nat ⊕ Int32) × gMem), b_L_law_1156 Z M kc kn = some z → (fun (r : (Nat ⊕ Int32) × gMem) => Q = gMX below D cy B H0 args s 600086 7301442 (gzI r.1) r.2) z → gGo p l e rL_law s m args below meth c D cy B H0 34 kc kn Q 1156 [] [] M := by
  intro M kc kn z hf hK
  unfold b_L_law_1156 at hf
  have X := gX_w X2
  refine g_iconst (v := (0 : Int32)) X dL_law_1156 (by decide) ?_
  obtain ⟨hg157, hf⟩ := ck_e hf
  cases hf
  refine g_eqQ hK ?_
  refine g_wide (k' := 600086) (n' := 7301442) hg157.1 hg157.2 ?_
  refine g_xret ?_
  exact g_zret X hr (gnb (Or.inl rfl)) dL_law_1157
set_option maxHeartbeats 4000000 in
set_option maxRecDepth 100000 in
theorem tb_L_law_1009 (X2 : gX p s m args meth c D cy B (gSt2 Z B H0) RL cL_law wsL_law 34) (hr : meth.sig.returnType = (some .boolean)) (hlx : l.stackTraces = false) (hH : ∀ q : Nat, q < B → s.heap[q]? = H0[q]?) (hne : ∀ x ∈ c.exceptionTable.toList, False) (hH0 : H0.size = B) {Q : State → Prop} : ∀ (M : gMem) (kc : Nat) (kn : Nat) (x2 : Option Nat) (x3 : Option Nat) (x4 : Int32) (x5 : Int32) (x6 : Int32) (x7 : Int32) (x10 : Option Nat) (x11 : Option Nat) (x12 : Option Nat) (x19 : Int32) (x20 : Int32) (x21 : Int32) (x23 : Int32) (x24 : Option Nat) (x26 : Int32) (z : (gMem × Nat × Nat × Int32) ⊕ ((gMem × Nat × Nat × Int32) ⊕ ((Nat ⊕ Int32) × gMem))), bb_L_law_1009 Z M kc kn x2 x3 x4 x5 x6 x7 x10 x11 x12 x19 x20 x21 x23 x24 x26 = some z → (Sum.elim (fun (q : gMem × Nat × Nat × Int32) => gGo p l e rL_law s m args below meth c D cy B H0 34 q.2.1 q.2.2.1 Q 1009 [(0, vR (some (Z 400))), (2, vR x2), (3, vR x3), (4, vI x4), (5, vI x5), (6, vI x6), (7, vI x7), (10, vR x10), (11, vR x11), (12, vR x12), (19, vI x19), (20, vI x20), (21, vI x21), (23, vI x23), (24, vR x24), (26, vI q.2.2.2)] [] q.1) (Sum.elim (fun (q : gMem × Nat × Nat × Int32) => gGo p l e rL_law s m args below meth c D cy B H0 34 q.2.1 q.2.2.1 Q 59 [(0, vR (some (Z 400))), (2, vR x2), (3, vR x3), (4, vI x4), (5, vI x5), (6, vI x6), (7, vI q.2.2.2)] [] q.1) (fun (r : (Nat ⊕ Int32) × gMem) => Q = gMX below D cy B H0 args s 600086 7301442 (gzI r.1) r.2))) z → gGo p l e rL_law s m args below meth c D cy B H0 34 kc kn Q 1009 [(0, vR (some (Z 400))), (2, vR x2), (3, vR x3), (4, vI x4), (5, vI x5), (6, vI x6), (7, vI x7), (10, vR x10), (11, vR x11), (12, vR x12), (19, vI x19), (20, vI x20), (21, vI x21), (23, vI x23), (24, vR x24), (26, vI x26)] [] M := by
  intro M kc kn x2 x3 x4 x5 x6 x7 x10 x11 x12 x19 x20 x21 x23 x24 x26 z hf hK
  unfold bb_L_law_1009 at hf
  have X := gX_w X2
  refine g_iload X dL_law_1009 rfl ?_
  refine g_iload X dL_law_1011 rfl ?_
  refine g_icmp_ge (tgt := 1272) X dL_law_1013 (by decide) (fun hc => ?_) (fun hc => ?_)
  · have hf := ife_t hc hf
    refine g_iconst (v := (0 : Int32)) X dL_law_1272 (by decide) ?_
    refine g_istore (lv' := [(26, vI (0 : Int32)), (0, vR (some (Z 400))), (2, vR x2), (3, vR x3), (4, vI x4), (5, vI x5), (6, vI x6), (7, vI x7), (10, vR x10), (11, vR x11), (12, vR x12), (19, vI x19), (20, vI x20), (21, vI x21), (23, vI x23), (24, vR x24)]) X dL_law_1273 (by decide) rfl ?_
    refine g_iconst (v := (0 : Int32)) X dL_law_1275 (by decide) ?_
    refine g_istore (lv' := [(27, vI (0 : Int32)), (26, vI (0 : Int32)), (0, vR (some (Z 400))), (2, vR x2), (3, vR x3), (4, vI x4), (5, vI x5), (6, vI x6), (7, vI x7), (10, vR x10), (11, vR x11), (12, vR x12), (19, vI x19), (20, vI x20), (21, vI x21), (23, vI x23), (24, vR x24)]) X dL_law_1276 (by decide) rfl ?_
    obtain ⟨w158, hw158, hz158⟩ := oI_e hf
    subst hz158
    have hf := hw158
    refine g_sub (lvsub_of _ _ [2, 3, 4, 5, 6, 7, 8, 9, 11, 14, 15, 1, 0] rfl) ?_
    exact tl_L_law_1278 X2 hr hlx hH hne hH0 _ _ _ _ _ _ _ _ _ _ _ _ _ _ _ _ hf hK
  · have hf := ife_f hc hf
    refine g_aload_n X dL_law_1016 rfl rfl ?_
    refine g_iload X dL_law_1017 rfl ?_
    refine g_bipush (v := (8 : Int32)) X dL_law_1019 (by decide) ?_
    obtain ⟨a160, ha160, hf⟩ := dr_e hf
    obtain ⟨hT161, hf⟩ := ck_e hf
    obtain ⟨hg162, hf⟩ := ck_e hf
    rcases bx_e hf with ⟨e159, M159, hq159, hf⟩ | ⟨r159, M159, hq159, hf⟩
    · obtain ⟨w163, hw163, hz163⟩ := oI_e hf
      subst hz163
      have hf := hw163
      obtain ⟨w164, hw164, hz164⟩ := oI_e hf
      subst hz164
      have hf := hw164
      cases hf
      refine g_eqQ hK ?_
      exact g_callTV (ci := 9) (b := a160) (As := [vI x26, vI (8 : Int32)]) (st := []) (M1 := M159) X2 hne (m_X11_ground l hlx hH0 hq159) (cwV 2 X.2.2.1 gL_law_X11_ground rfl rfl rfl (by decide +kernel) ⟨Nat.le_of_ble_eq_true rfl, Nat.le_of_ble_eq_true rfl⟩) rfl rfl ha160 hT161 (by decide) rfl (Nat.le_of_ble_eq_true rfl) dL_law_1021 ⟨hg162.1, hg162.2⟩ hg162.1 hg162.2
    refine g_callXV (ci := 9) (b := a160) (As := [vI x26, vI (8 : Int32)]) (st := []) (v := some (vI r159)) (M1 := M159) X2 (m_X11_ground l hlx hH0 hq159) (cwV 2 X.2.2.1 gL_law_X11_ground rfl rfl rfl (by decide +kernel) ⟨Nat.le_of_ble_eq_true rfl, Nat.le_of_ble_eq_true rfl⟩) rfl rfl ha160 hT161 (by decide) rfl (Nat.le_of_ble_eq_true rfl) dL_law_1021 ⟨hg162.1, hg162.2⟩ ?_
    refine g_aload X dL_law_1024 rfl ?_
    refine g_iload X dL_law_1026 rfl ?_
    obtain ⟨a165, ha165, hf⟩ := dr_e hf
    obtain ⟨hT166, hf⟩ := ck_e hf
    obtain ⟨hg167, hf⟩ := ck_e hf
    refine g_aaldA X dL_law_1028 ha165 hT166 hg167 ?_
    refine g_bipush (v := (8 : Int32)) X dL_law_1029 (by decide) ?_
    obtain ⟨a168, ha168, hf⟩ := dr_e hf
    obtain ⟨hT169, hf⟩ := ck_e hf
    obtain ⟨hg170, hf⟩ := ck_e hf
    refine g_iald X dL_law_1031 ha168 hT169 hg170 ?_
    refine g_isub X dL_law_1032 ?_
    refine g_istore (lv' := [(27, vI (r159 - (mI M159 a168 ((8 : Int32)).toNatClampNeg))), (0, vR (some (Z 400))), (2, vR x2), (3, vR x3), (4, vI x4), (5, vI x5), (6, vI x6), (7, vI x7), (10, vR x10), (11, vR x11), (12, vR x12), (19, vI x19), (20, vI x20), (21, vI x21), (23, vI x23), (24, vR x24), (26, vI x26)]) X dL_law_1033 (by decide) rfl ?_
    refine g_aload X dL_law_1035 rfl ?_
    refine g_iload X dL_law_1037 rfl ?_
    obtain ⟨hg171, hf⟩ := ck_e hf
    refine g_aaldA X dL_law_1039 ha165 hT166 hg171 ?_
    refine g_iconst (v := (0 : Int32)) X dL_law_1040 (by decide) ?_
    obtain ⟨hg172, hf⟩ := ck_e hf
    refine g_iald X dL_law_1041 ha168 hT169 hg172 ?_
    refine g_iload X dL_law_1042 rfl ?_
    refine g_isub X dL_law_1044 ?_
    refine g_istore (lv' := [(28, vI ((mI M159 a168 ((0 : Int32)).toNatClampNeg) - (r159 - (mI M159 a168 ((8 : Int32)).toNatClampNeg)))), (27, vI (r159 - (mI M159 a168 ((8 : Int32)).toNatClampNeg))), (0, vR (some (Z 400))), (2, vR x2), (3, vR x3), (4, vI x4), (5, vI x5), (6, vI x6), (7, vI x7), (10, vR x10), (11, vR x11), (12, vR x12), (19, vI x19), (20, vI x20), (21, vI x21), (23, vI x23), (24, vR x24), (26, vI x26)]) X dL_law_1045 (by decide) rfl ?_
    refine g_aload_n X dL_law_1047 rfl rfl ?_
    refine g_iload X dL_law_1048 rfl ?_
    refine g_bipush (v := (7 : Int32)) X dL_law_1050 (by decide) ?_
    obtain ⟨hT174, hf⟩ := ck_e hf
    obtain ⟨hg175, hf⟩ := ck_e hf
    rcases bx_e hf with ⟨e173, M173, hq173, hf⟩ | ⟨r173, M173, hq173, hf⟩
    · obtain ⟨w176, hw176, hz176⟩ := oI_e hf
      subst hz176
      have hf := hw176
      obtain ⟨w177, hw177, hz177⟩ := oI_e hf
      subst hz177
      have hf := hw177
      cases hf
      refine g_eqQ hK ?_
      exact g_callTV (ci := 9) (b := a160) (As := [vI x26, vI (7 : Int32)]) (st := []) (M1 := M173) X2 hne (m_X11_ground l hlx hH0 hq173) (cwV 2 X.2.2.1 gL_law_X11_ground rfl rfl rfl (by decide +kernel) ⟨Nat.le_of_ble_eq_true rfl, Nat.le_of_ble_eq_true rfl⟩) rfl rfl ha160 hT174 (by decide) rfl (Nat.le_of_ble_eq_true rfl) dL_law_1052 ⟨hg175.1, hg175.2⟩ hg175.1 hg175.2
    refine g_callXV (ci := 9) (b := a160) (As := [vI x26, vI (7 : Int32)]) (st := []) (v := some (vI r173)) (M1 := M173) X2 (m_X11_ground l hlx hH0 hq173) (cwV 2 X.2.2.1 gL_law_X11_ground rfl rfl rfl (by decide +kernel) ⟨Nat.le_of_ble_eq_true rfl, Nat.le_of_ble_eq_true rfl⟩) rfl rfl ha160 hT174 (by decide) rfl (Nat.le_of_ble_eq_true rfl) dL_law_1052 ⟨hg175.1, hg175.2⟩ ?_
    refine g_aload X dL_law_1055 rfl ?_
    refine g_iload X dL_law_1057 rfl ?_
    obtain ⟨a178, ha178, hf⟩ := dr_e hf
    obtain ⟨hT179, hf⟩ := ck_e hf
    obtain ⟨hg180, hf⟩ := ck_e hf
    refine g_iald X dL_law_1059 ha178 hT179 hg180 ?_
    refine g_icmp_ne (tgt := 1156) X dL_law_1060 (by decide) (fun hc => ?_) (fun hc => ?_)
    · have hf := ife_f hc hf
      obtain ⟨w181, hw181, hz181⟩ := oI_e hf
      subst hz181
      have hf := hw181
      obtain ⟨w182, hw182, hz182⟩ := oI_e hf
      subst hz182
      have hf := hw182
      refine g_sub (lvsub_of _ _ [] rfl) ?_
      exact t_L_law_1156 X2 hr hlx hH hne hH0 _ _ _ _ hf hK
    · have hf := ife_t hc hf
      refine g_aload X dL_law_1063 rfl ?_
      refine g_iload X dL_law_1065 rfl ?_
      obtain ⟨hg183, hf⟩ := ck_e hf
      refine g_iald X dL_law_1067 ha178 hT179 hg183 ?_
      refine g_aload X dL_law_1068 rfl ?_
      refine g_iload X dL_law_1070 rfl ?_
      obtain ⟨hT184, hf⟩ := ck_e hf
      obtain ⟨hg185, hf⟩ := ck_e hf
      refine g_aaldA X dL_law_1072 ha165 hT184 hg185 ?_
      refine g_bipush (v := (6 : Int32)) X dL_law_1073 (by decide) ?_
      obtain ⟨a186, ha186, hf⟩ := dr_e hf
      obtain ⟨hT187, hf⟩ := ck_e hf
      obtain ⟨hg188, hf⟩ := ck_e hf
      refine g_iald X dL_law_1075 ha186 hT187 hg188 ?_
      refine g_icmp_gt (tgt := 1156) X dL_law_1076 (by decide) (fun hc => ?_) (fun hc => ?_)
      · have hf := ife_t hc hf
        obtain ⟨w189, hw189, hz189⟩ := oI_e hf
        subst hz189
        have hf := hw189
        obtain ⟨w190, hw190, hz190⟩ := oI_e hf
        subst hz190
        have hf := hw190
        refine g_sub (lvsub_of _ _ [] rfl) ?_
        exact t_L_law_1156 X2 hr hlx hH hne hH0 _ _ _ _ hf hK
      · have hf := ife_f hc hf
        refine g_aload_n X dL_law_1079 rfl rfl ?_
        refine g_iload X dL_law_1080 rfl ?_
        refine g_bipush (v := (6 : Int32)) X dL_law_1082 (by decide) ?_
        obtain ⟨hT192, hf⟩ := ck_e hf
        obtain ⟨hg193, hf⟩ := ck_e hf
        rcases bx_e hf with ⟨e191, M191, hq191, hf⟩ | ⟨r191, M191, hq191, hf⟩
        · obtain ⟨w194, hw194, hz194⟩ := oI_e hf
          subst hz194
          have hf := hw194
          obtain ⟨w195, hw195, hz195⟩ := oI_e hf
          subst hz195
          have hf := hw195
          cases hf
          refine g_eqQ hK ?_
          exact g_callTV (ci := 9) (b := a160) (As := [vI x26, vI (6 : Int32)]) (st := []) (M1 := M191) X2 hne (m_X11_ground l hlx hH0 hq191) (cwV 2 X.2.2.1 gL_law_X11_ground rfl rfl rfl (by decide +kernel) ⟨Nat.le_of_ble_eq_true rfl, Nat.le_of_ble_eq_true rfl⟩) rfl rfl ha160 hT192 (by decide) rfl (Nat.le_of_ble_eq_true rfl) dL_law_1084 ⟨hg193.1, hg193.2⟩ hg193.1 hg193.2
        refine g_callXV (ci := 9) (b := a160) (As := [vI x26, vI (6 : Int32)]) (st := []) (v := some (vI r191)) (M1 := M191) X2 (m_X11_ground l hlx hH0 hq191) (cwV 2 X.2.2.1 gL_law_X11_ground rfl rfl rfl (by decide +kernel) ⟨Nat.le_of_ble_eq_true rfl, Nat.le_of_ble_eq_true rfl⟩) rfl rfl ha160 hT192 (by decide) rfl (Nat.le_of_ble_eq_true rfl) dL_law_1084 ⟨hg193.1, hg193.2⟩ ?_
        refine g_aload X dL_law_1087 rfl ?_
        refine g_iload X dL_law_1089 rfl ?_
        obtain ⟨hT196, hf⟩ := ck_e hf
        obtain ⟨hg197, hf⟩ := ck_e hf
        refine g_aaldA X dL_law_1091 ha165 hT196 hg197 ?_
        refine g_bipush (v := (6 : Int32)) X dL_law_1092 (by decide) ?_
        obtain ⟨a198, ha198, hf⟩ := dr_e hf
        obtain ⟨hT199, hf⟩ := ck_e hf
        obtain ⟨hg200, hf⟩ := ck_e hf
        refine g_iald X dL_law_1094 ha198 hT199 hg200 ?_
        refine g_icmp_ne (tgt := 1156) X dL_law_1095 (by decide) (fun hc => ?_) (fun hc => ?_)
        · have hf := ife_f hc hf
          obtain ⟨w201, hw201, hz201⟩ := oI_e hf
          subst hz201
          have hf := hw201
          obtain ⟨w202, hw202, hz202⟩ := oI_e hf
          subst hz202
          have hf := hw202
          refine g_sub (lvsub_of _ _ [] rfl) ?_
          exact t_L_law_1156 X2 hr hlx hH hne hH0 _ _ _ _ hf hK
        · have hf := ife_t hc hf
          refine g_iload X dL_law_1098 rfl ?_
          refine g_if_lt (tgt := 1156) X dL_law_1100 (by decide) (fun hc => ?_) (fun hc => ?_)
          · have hf := ife_t hc hf
            obtain ⟨w203, hw203, hz203⟩ := oI_e hf
            subst hz203
            have hf := hw203
            obtain ⟨w204, hw204, hz204⟩ := oI_e hf
            subst hz204
            have hf := hw204
            refine g_sub (lvsub_of _ _ [] rfl) ?_
            exact t_L_law_1156 X2 hr hlx hH hne hH0 _ _ _ _ hf hK
          · have hf := ife_f hc hf
            refine g_iload X dL_law_1103 rfl ?_
            refine g_if_lt (tgt := 1156) X dL_law_1105 (by decide) (fun hc => ?_) (fun hc => ?_)
            · have hf := ife_t hc hf
              obtain ⟨w205, hw205, hz205⟩ := oI_e hf
              subst hz205
              have hf := hw205
              obtain ⟨w206, hw206, hz206⟩ := oI_e hf
              subst hz206
              have hf := hw206
              refine g_sub (lvsub_of _ _ [] rfl) ?_
              exact t_L_law_1156 X2 hr hlx hH hne hH0 _ _ _ _ hf hK
            · have hf := ife_f hc hf
              refine g_aload_n X dL_law_1108 rfl rfl ?_
              refine g_iload X dL_law_1109 rfl ?_
              refine g_iconst (v := (0 : Int32)) X dL_law_1111 (by decide) ?_
              obtain ⟨hT208, hf⟩ := ck_e hf
              obtain ⟨hg209, hf⟩ := ck_e hf
              rcases bx_e hf with ⟨e207, M207, hq207, hf⟩ | ⟨r207, M207, hq207, hf⟩
              · obtain ⟨w210, hw210, hz210⟩ := oI_e hf
                subst hz210
                have hf := hw210
                obtain ⟨w211, hw211, hz211⟩ := oI_e hf
                subst hz211
                have hf := hw211
                cases hf
                refine g_eqQ hK ?_
                exact g_callTV (ci := 9) (b := a160) (As := [vI x26, vI (0 : Int32)]) (st := []) (M1 := M207) X2 hne (m_X11_ground l hlx hH0 hq207) (cwV 2 X.2.2.1 gL_law_X11_ground rfl rfl rfl (by decide +kernel) ⟨Nat.le_of_ble_eq_true rfl, Nat.le_of_ble_eq_true rfl⟩) rfl rfl ha160 hT208 (by decide) rfl (Nat.le_of_ble_eq_true rfl) dL_law_1112 ⟨hg209.1, hg209.2⟩ hg209.1 hg209.2
              refine g_callXV (ci := 9) (b := a160) (As := [vI x26, vI (0 : Int32)]) (st := []) (v := some (vI r207)) (M1 := M207) X2 (m_X11_ground l hlx hH0 hq207) (cwV 2 X.2.2.1 gL_law_X11_ground rfl rfl rfl (by decide +kernel) ⟨Nat.le_of_ble_eq_true rfl, Nat.le_of_ble_eq_true rfl⟩) rfl rfl ha160 hT208 (by decide) rfl (Nat.le_of_ble_eq_true rfl) dL_law_1112 ⟨hg209.1, hg209.2⟩ ?_
              refine g_iload X dL_law_1115 rfl ?_
              refine g_iload X dL_law_1117 rfl ?_
              refine g_bipush (v := (6 : Int32)) X dL_law_1119 (by decide) ?_
              refine g_idiv X dL_law_1121 (by decide) ?_
              refine g_iadd X dL_law_1122 ?_
              refine g_icmp_gt (tgt := 1156) X dL_law_1123 (by decide) (fun hc => ?_) (fun hc => ?_)
              · have hf := ife_t hc hf
                obtain ⟨w212, hw212, hz212⟩ := oI_e hf
                subst hz212
                have hf := hw212
                obtain ⟨w213, hw213, hz213⟩ := oI_e hf
                subst hz213
                have hf := hw213
                refine g_sub (lvsub_of _ _ [] rfl) ?_
                exact t_L_law_1156 X2 hr hlx hH hne hH0 _ _ _ _ hf hK
              · have hf := ife_f hc hf
                refine g_aload_n X dL_law_1126 rfl rfl ?_
                refine g_iload X dL_law_1127 rfl ?_
                refine g_iconst (v := (0 : Int32)) X dL_law_1129 (by decide) ?_
                obtain ⟨hT215, hf⟩ := ck_e hf
                obtain ⟨hg216, hf⟩ := ck_e hf
                rcases bx_e hf with ⟨e214, M214, hq214, hf⟩ | ⟨r214, M214, hq214, hf⟩
                · obtain ⟨w217, hw217, hz217⟩ := oI_e hf
                  subst hz217
                  have hf := hw217
                  obtain ⟨w218, hw218, hz218⟩ := oI_e hf
                  subst hz218
                  have hf := hw218
                  cases hf
                  refine g_eqQ hK ?_
                  exact g_callTV (ci := 9) (b := a160) (As := [vI x26, vI (0 : Int32)]) (st := []) (M1 := M214) X2 hne (m_X11_ground l hlx hH0 hq214) (cwV 2 X.2.2.1 gL_law_X11_ground rfl rfl rfl (by decide +kernel) ⟨Nat.le_of_ble_eq_true rfl, Nat.le_of_ble_eq_true rfl⟩) rfl rfl ha160 hT215 (by decide) rfl (Nat.le_of_ble_eq_true rfl) dL_law_1130 ⟨hg216.1, hg216.2⟩ hg216.1 hg216.2
                refine g_callXV (ci := 9) (b := a160) (As := [vI x26, vI (0 : Int32)]) (st := []) (v := some (vI r214)) (M1 := M214) X2 (m_X11_ground l hlx hH0 hq214) (cwV 2 X.2.2.1 gL_law_X11_ground rfl rfl rfl (by decide +kernel) ⟨Nat.le_of_ble_eq_true rfl, Nat.le_of_ble_eq_true rfl⟩) rfl rfl ha160 hT215 (by decide) rfl (Nat.le_of_ble_eq_true rfl) dL_law_1130 ⟨hg216.1, hg216.2⟩ ?_
                refine g_iload X dL_law_1133 rfl ?_
                refine g_bipush (v := (99 : Int32)) X dL_law_1135 (by decide) ?_
                refine g_isub X dL_law_1137 ?_
                refine g_icmp_lt (tgt := 1156) X dL_law_1138 (by decide) (fun hc => ?_) (fun hc => ?_)
                · have hf := ife_t hc hf
                  obtain ⟨w219, hw219, hz219⟩ := oI_e hf
                  subst hz219
                  have hf := hw219
                  obtain ⟨w220, hw220, hz220⟩ := oI_e hf
                  subst hz220
                  have hf := hw220
                  refine g_sub (lvsub_of _ _ [] rfl) ?_
                  exact t_L_law_1156 X2 hr hlx hH hne hH0 _ _ _ _ hf hK
                · have hf := ife_f hc hf
                  refine g_iload X dL_law_1141 rfl ?_
                  refine g_if_ne (tgt := 1158) X dL_law_1143 (by decide) (fun hc => ?_) (fun hc => ?_)
                  · have hf := ife_f hc hf
                    refine g_sub (lvsub_of _ _ [2, 3, 4, 5, 6, 7, 8, 9, 10, 11, 12, 13, 14, 15, 16, 17] rfl) ?_
                    exact t_L_law_1158 X2 hr hlx hH hne hH0 _ _ _ _ _ _ _ _ _ _ _ _ _ _ _ _ _ _ _ hf hK
                  · have hf := ife_t hc hf
                    refine g_aload_n X dL_law_1146 rfl rfl ?_
                    refine g_iload X dL_law_1147 rfl ?_
                    refine g_iconst (v := (0 : Int32)) X dL_law_1149 (by decide) ?_
                    obtain ⟨hT222, hf⟩ := ck_e hf
                    obtain ⟨hg223, hf⟩ := ck_e hf
                    rcases bx_e hf with ⟨e221, M221, hq221, hf⟩ | ⟨r221, M221, hq221, hf⟩
                    · obtain ⟨w224, hw224, hz224⟩ := oI_e hf
                      subst hz224
                      have hf := hw224
                      obtain ⟨w225, hw225, hz225⟩ := oI_e hf
                      subst hz225
                      have hf := hw225
                      cases hf
                      refine g_eqQ hK ?_
                      exact g_callTV (ci := 9) (b := a160) (As := [vI x26, vI (0 : Int32)]) (st := []) (M1 := M221) X2 hne (m_X11_ground l hlx hH0 hq221) (cwV 2 X.2.2.1 gL_law_X11_ground rfl rfl rfl (by decide +kernel) ⟨Nat.le_of_ble_eq_true rfl, Nat.le_of_ble_eq_true rfl⟩) rfl rfl ha160 hT222 (by decide) rfl (Nat.le_of_ble_eq_true rfl) dL_law_1150 ⟨hg223.1, hg223.2⟩ hg223.1 hg223.2
                    refine g_callXV (ci := 9) (b := a160) (As := [vI x26, vI (0 : Int32)]) (st := []) (v := some (vI r221)) (M1 := M221) X2 (m_X11_ground l hlx hH0 hq221) (cwV 2 X.2.2.1 gL_law_X11_ground rfl rfl rfl (by decide +kernel) ⟨Nat.le_of_ble_eq_true rfl, Nat.le_of_ble_eq_true rfl⟩) rfl rfl ha160 hT222 (by decide) rfl (Nat.le_of_ble_eq_true rfl) dL_law_1150 ⟨hg223.1, hg223.2⟩ ?_
                    refine g_if_eq (tgt := 1158) X dL_law_1153 (by decide) (fun hc => ?_) (fun hc => ?_)
                    · have hf := ife_t hc hf
                      refine g_sub (lvsub_of _ _ [2, 3, 4, 5, 6, 7, 8, 9, 10, 11, 12, 13, 14, 15, 16, 17] rfl) ?_
                      exact t_L_law_1158 X2 hr hlx hH hne hH0 _ _ _ _ _ _ _ _ _ _ _ _ _ _ _ _ _ _ _ hf hK
                    · have hf := ife_f hc hf
                      obtain ⟨w226, hw226, hz226⟩ := oI_e hf
                      subst hz226
                      have hf := hw226
                      obtain ⟨w227, hw227, hz227⟩ := oI_e hf
                      subst hz227
                      have hf := hw227
                      refine g_sub (lvsub_of _ _ [] rfl) ?_
                      exact t_L_law_1156 X2 hr hlx hH hne hH0 _ _ _ _ hf hK
set_option maxHeartbeats 4000000 in
set_option maxRecDepth 100000 in
theorem tl_L_law_1009 (X2 : gX p s m args meth c D cy B (gSt2 Z B H0) RL cL_law wsL_law 34) (hr : meth.sig.returnType = (some .boolean)) (hlx : l.stackTraces = false) (hH : ∀ q : Nat, q < B → s.heap[q]? = H0[q]?) (hne : ∀ x ∈ c.exceptionTable.toList, False) (hH0 : H0.size = B) {Q : State → Prop} : ∀ (M : gMem) (kc : Nat) (kn : Nat) (x2 : Option Nat) (x3 : Option Nat) (x4 : Int32) (x5 : Int32) (x6 : Int32) (x7 : Int32) (x10 : Option Nat) (x11 : Option Nat) (x12 : Option Nat) (x19 : Int32) (x20 : Int32) (x21 : Int32) (x23 : Int32) (x24 : Option Nat) (x26 : Int32) (z : (gMem × Nat × Nat × Int32) ⊕ ((Nat ⊕ Int32) × gMem)), lp_L_law_1009 Z M kc kn x2 x3 x4 x5 x6 x7 x10 x11 x12 x19 x20 x21 x23 x24 x26 = some z → (Sum.elim (fun (q : gMem × Nat × Nat × Int32) => gGo p l e rL_law s m args below meth c D cy B H0 34 q.2.1 q.2.2.1 Q 59 [(0, vR (some (Z 400))), (2, vR x2), (3, vR x3), (4, vI x4), (5, vI x5), (6, vI x6), (7, vI q.2.2.2)] [] q.1) (fun (r : (Nat ⊕ Int32) × gMem) => Q = gMX below D cy B H0 args s 600086 7301442 (gzI r.1) r.2)) z → gGo p l e rL_law s m args below meth c D cy B H0 34 kc kn Q 1009 [(0, vR (some (Z 400))), (2, vR x2), (3, vR x3), (4, vI x4), (5, vI x5), (6, vI x6), (7, vI x7), (10, vR x10), (11, vR x11), (12, vR x12), (19, vI x19), (20, vI x20), (21, vI x21), (23, vI x23), (24, vR x24), (26, vI x26)] [] M := by
  intro M kc kn x2 x3 x4 x5 x6 x7 x10 x11 x12 x19 x20 x21 x23 x24 x26 z hf hK
  refine lp_ind (P := (fun (q : gMem × Nat × Nat × Int32) (z : (gMem × Nat × Nat × Int32) ⊕ ((Nat ⊕ Int32) × gMem)) => (Sum.elim (fun (q : gMem × Nat × Nat × Int32) => gGo p l e rL_law s m args below meth c D cy B H0 34 q.2.1 q.2.2.1 Q 59 [(0, vR (some (Z 400))), (2, vR x2), (3, vR x3), (4, vI x4), (5, vI x5), (6, vI x6), (7, vI q.2.2.2)] [] q.1) (fun (r : (Nat ⊕ Int32) × gMem) => Q = gMX below D cy B H0 args s 600086 7301442 (gzI r.1) r.2)) z → gGo p l e rL_law s m args below meth c D cy B H0 34 q.2.1 q.2.2.1 Q 1009 [(0, vR (some (Z 400))), (2, vR x2), (3, vR x3), (4, vI x4), (5, vI x5), (6, vI x6), (7, vI x7), (10, vR x10), (11, vR x11), (12, vR x12), (19, vI x19), (20, vI x20), (21, vI x21), (23, vI x23), (24, vR x24), (26, vI q.2.2.2)] [] q.1)) (fun q z hq => ?_) _ _ hf hK
  intro hK
  obtain ⟨w, hw, hm⟩ := hq
  refine tb_L_law_1009 X2 hr hlx hH hne hH0 _ _ _ _ _ _ _ _ _ _ _ _ _ _ _ _ _ _ w hw ?_
  cases w with
  | inl a => exact hm hK
  | inr b => cases hm; exact hK
set_option maxHeartbeats 4000000 in
set_option maxRecDepth 100000 in
theorem tb_L_law_950 (X2 : gX p s m args meth c D cy B (gSt2 Z B H0) RL cL_law wsL_law 34) (hr : meth.sig.returnType = (some .boolean)) (hlx : l.stackTraces = false) (hH : ∀ q : Nat, q < B → s.heap[q]? = H0[q]?) (hne : ∀ x ∈ c.exceptionTable.toList, False) (hH0 : H0.size = B) {Q : State → Prop} : ∀ (M : gMem) (kc : Nat) (kn : Nat) (x2 : Option Nat) (x3 : Option Nat) (x4 : Int32) (x5 : Int32) (x6 : Int32) (x7 : Int32) (x10 : Option Nat) (x11 : Option Nat) (x12 : Option Nat) (x19 : Int32) (x20 : Int32) (x21 : Int32) (x23 : Int32) (x24 : Option Nat) (x25 : Int32) (x26 : Int32) (x30 : Int32) (x31 : Int32) (z : (gMem × Nat × Nat × Int32 × Int32) ⊕ ((gMem × Nat × Nat × Int32 × Int32) ⊕ ((gMem × Nat × Nat × Int32) ⊕ ((Nat ⊕ Int32) × gMem)))), bb_L_law_950 Z M kc kn x2 x3 x4 x5 x6 x7 x10 x11 x12 x19 x20 x21 x23 x24 x25 x26 x30 x31 = some z → (Sum.elim (fun (q : gMem × Nat × Nat × Int32 × Int32) => gGo p l e rL_law s m args below meth c D cy B H0 34 q.2.1 q.2.2.1 Q 950 [(0, vR (some (Z 400))), (2, vR x2), (3, vR x3), (4, vI x4), (5, vI x5), (6, vI x6), (7, vI x7), (10, vR x10), (11, vR x11), (12, vR x12), (19, vI x19), (20, vI x20), (21, vI x21), (23, vI x23), (24, vR x24), (25, vI x25), (26, vI x26), (30, vI q.2.2.2.1), (31, vI q.2.2.2.2)] [] q.1) (Sum.elim (fun (q : gMem × Nat × Nat × Int32 × Int32) => gGo p l e rL_law s m args below meth c D cy B H0 34 q.2.1 q.2.2.1 Q 680 [(0, vR (some (Z 400))), (2, vR x2), (3, vR x3), (4, vI x4), (5, vI x5), (6, vI x6), (7, vI x7), (10, vR x10), (11, vR x11), (12, vR x12), (19, vI x19), (20, vI x20), (21, vI x21), (23, vI x23), (24, vR x24), (25, vI q.2.2.2.1), (26, vI q.2.2.2.2)] [] q.1) (Sum.elim (fun (q : gMem × Nat × Nat × Int32) => gGo p l e rL_law s m args below meth c D cy B H0 34 q.2.1 q.2.2.1 Q 59 [(0, vR (some (Z 400))), (2, vR x2), (3, vR x3), (4, vI x4), (5, vI x5), (6, vI x6), (7, vI q.2.2.2)] [] q.1) (fun (r : (Nat ⊕ Int32) × gMem) => Q = gMX below D cy B H0 args s 600086 7301442 (gzI r.1) r.2)))) z → gGo p l e rL_law s m args below meth c D cy B H0 34 kc kn Q 950 [(0, vR (some (Z 400))), (2, vR x2), (3, vR x3), (4, vI x4), (5, vI x5), (6, vI x6), (7, vI x7), (10, vR x10), (11, vR x11), (12, vR x12), (19, vI x19), (20, vI x20), (21, vI x21), (23, vI x23), (24, vR x24), (25, vI x25), (26, vI x26), (30, vI x30), (31, vI x31)] [] M := by
  intro M kc kn x2 x3 x4 x5 x6 x7 x10 x11 x12 x19 x20 x21 x23 x24 x25 x26 x30 x31 z hf hK
  unfold bb_L_law_950 at hf
  have X := gX_w X2
  refine g_iload X dL_law_950 rfl ?_
  refine g_iload X dL_law_952 rfl ?_
  refine g_icmp_ge (tgt := 976) X dL_law_954 (by decide) (fun hc => ?_) (fun hc => ?_)
  · have hf := ife_t hc hf
    refine g_iload X dL_law_976 rfl ?_
    refine g_aload_n X dL_law_978 rfl rfl ?_
    refine g_iload X dL_law_979 rfl ?_
    refine g_bipush (v := (9 : Int32)) X dL_law_981 (by decide) ?_
    obtain ⟨a229, ha229, hf⟩ := dr_e hf
    obtain ⟨hT230, hf⟩ := ck_e hf
    obtain ⟨hg231, hf⟩ := ck_e hf
    rcases bx_e hf with ⟨e228, M228, hq228, hf⟩ | ⟨r228, M228, hq228, hf⟩
    · obtain ⟨w232, hw232, hz232⟩ := oI_e hf
      subst hz232
      have hf := hw232
      obtain ⟨w233, hw233, hz233⟩ := oI_e hf
      subst hz233
      have hf := hw233
      obtain ⟨w234, hw234, hz234⟩ := oI_e hf
      subst hz234
      have hf := hw234
      cases hf
      refine g_eqQ hK ?_
      exact g_callTV (ci := 9) (b := a229) (As := [vI x26, vI (9 : Int32)]) (st := [vI x30]) (M1 := M228) X2 hne (m_X11_fisher l hlx hH0 hq228) (cwV 2 X.2.2.1 gL_law_X11_fisher rfl rfl rfl (by decide +kernel) ⟨Nat.le_of_ble_eq_true rfl, Nat.le_of_ble_eq_true rfl⟩) rfl rfl ha229 hT230 (by decide) rfl (Nat.le_of_ble_eq_true rfl) dL_law_983 ⟨hg231.1, hg231.2⟩ hg231.1 hg231.2
    refine g_callXV (ci := 9) (b := a229) (As := [vI x26, vI (9 : Int32)]) (st := [vI x30]) (v := some (vI r228)) (M1 := M228) X2 (m_X11_fisher l hlx hH0 hq228) (cwV 2 X.2.2.1 gL_law_X11_fisher rfl rfl rfl (by decide +kernel) ⟨Nat.le_of_ble_eq_true rfl, Nat.le_of_ble_eq_true rfl⟩) rfl rfl ha229 hT230 (by decide) rfl (Nat.le_of_ble_eq_true rfl) dL_law_983 ⟨hg231.1, hg231.2⟩ ?_
    refine g_icmp_eq (tgt := 991) X dL_law_986 (by decide) (fun hc => ?_) (fun hc => ?_)
    · have hf := ife_t hc hf
      refine g_iinc (v := (1 : Int32)) (lv' := [(26, vI (x26 + (1 : Int32))), (0, vR (some (Z 400))), (2, vR x2), (3, vR x3), (4, vI x4), (5, vI x5), (6, vI x6), (7, vI x7), (10, vR x10), (11, vR x11), (12, vR x12), (19, vI x19), (20, vI x20), (21, vI x21), (23, vI x23), (24, vR x24), (25, vI x25), (30, vI x30), (31, vI x31)]) X dL_law_991 rfl (by decide) (by decide) rfl ?_
      refine g_goto (tgt := 680) X dL_law_994 (by decide) ?_
      obtain ⟨w235, hw235, hz235⟩ := oI_e hf
      subst hz235
      have hf := hw235
      cases hf
      refine g_sub (lvsub_of _ _ [1, 2, 3, 4, 5, 6, 7, 8, 9, 10, 11, 12, 13, 14, 15, 16, 0] rfl) ?_
      exact hK
    · have hf := ife_f hc hf
      refine g_iconst (v := (0 : Int32)) X dL_law_989 (by decide) ?_
      obtain ⟨hg236, hf⟩ := ck_e hf
      obtain ⟨w237, hw237, hz237⟩ := oI_e hf
      subst hz237
      have hf := hw237
      obtain ⟨w238, hw238, hz238⟩ := oI_e hf
      subst hz238
      have hf := hw238
      obtain ⟨w239, hw239, hz239⟩ := oI_e hf
      subst hz239
      have hf := hw239
      cases hf
      refine g_eqQ hK ?_
      refine g_wide (k' := 600086) (n' := 7301442) hg236.1 hg236.2 ?_
      refine g_xret ?_
      exact g_zret X hr (gnb (Or.inl rfl)) dL_law_990
  · have hf := ife_f hc hf
    refine g_iload X dL_law_957 rfl ?_
    refine g_aload_n X dL_law_959 rfl rfl ?_
    refine g_iload X dL_law_960 rfl ?_
    refine g_iload X dL_law_962 rfl ?_
    obtain ⟨a241, ha241, hf⟩ := dr_e hf
    obtain ⟨hT242, hf⟩ := ck_e hf
    obtain ⟨hg243, hf⟩ := ck_e hf
    rcases bx_e hf with ⟨e240, M240, hq240, hf⟩ | ⟨r240, M240, hq240, hf⟩
    · obtain ⟨w244, hw244, hz244⟩ := oI_e hf
      subst hz244
      have hf := hw244
      obtain ⟨w245, hw245, hz245⟩ := oI_e hf
      subst hz245
      have hf := hw245
      obtain ⟨w246, hw246, hz246⟩ := oI_e hf
      subst hz246
      have hf := hw246
      cases hf
      refine g_eqQ hK ?_
      exact g_callTV (ci := 9) (b := a241) (As := [vI x31, vI x26]) (st := [vI x30]) (M1 := M240) X2 hne (m_X11_took l hlx hH0 hq240) (cwV 2 X.2.2.1 gL_law_X11_took rfl rfl rfl (by decide +kernel) ⟨Nat.le_of_ble_eq_true rfl, Nat.le_of_ble_eq_true rfl⟩) rfl rfl ha241 hT242 (by decide) rfl (Nat.le_of_ble_eq_true rfl) dL_law_964 ⟨hg243.1, hg243.2⟩ hg243.1 hg243.2
    refine g_callXV (ci := 9) (b := a241) (As := [vI x31, vI x26]) (st := [vI x30]) (v := some (vI r240)) (M1 := M240) X2 (m_X11_took l hlx hH0 hq240) (cwV 2 X.2.2.1 gL_law_X11_took rfl rfl rfl (by decide +kernel) ⟨Nat.le_of_ble_eq_true rfl, Nat.le_of_ble_eq_true rfl⟩) rfl rfl ha241 hT242 (by decide) rfl (Nat.le_of_ble_eq_true rfl) dL_law_964 ⟨hg243.1, hg243.2⟩ ?_
    refine g_iadd X dL_law_967 ?_
    refine g_istore (lv' := [(30, vI (x30 + r240)), (0, vR (some (Z 400))), (2, vR x2), (3, vR x3), (4, vI x4), (5, vI x5), (6, vI x6), (7, vI x7), (10, vR x10), (11, vR x11), (12, vR x12), (19, vI x19), (20, vI x20), (21, vI x21), (23, vI x23), (24, vR x24), (25, vI x25), (26, vI x26), (31, vI x31)]) X dL_law_968 (by decide) rfl ?_
    refine g_iinc (v := (1 : Int32)) (lv' := [(31, vI (x31 + (1 : Int32))), (30, vI (x30 + r240)), (0, vR (some (Z 400))), (2, vR x2), (3, vR x3), (4, vI x4), (5, vI x5), (6, vI x6), (7, vI x7), (10, vR x10), (11, vR x11), (12, vR x12), (19, vI x19), (20, vI x20), (21, vI x21), (23, vI x23), (24, vR x24), (25, vI x25), (26, vI x26)]) X dL_law_970 rfl (by decide) (by decide) rfl ?_
    refine g_goto (tgt := 950) X dL_law_973 (by decide) ?_
    cases hf
    refine g_sub (lvsub_of _ _ [2, 3, 4, 5, 6, 7, 8, 9, 10, 11, 12, 13, 14, 15, 16, 17, 18, 1, 0] rfl) ?_
    exact hK
end
