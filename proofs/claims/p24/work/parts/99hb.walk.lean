/-! The law's walk, 5 (written by law99h.py) -/
section
variable {p : Program} {l : Launch} {e : Env} {s : State} {m : MethodId} {args : Array Value} {below : List Frame} {meth : Method} {c : Code} {D : va_G} {cy : Nat → ClassId} {B : Nat} {H0 : Heap} {Z : Nat → Nat}
set_option maxHeartbeats 4000000 in
set_option maxRecDepth 100000 in
theorem tl_L_law_269 (X2 : gX p s m args meth c D cy B (gSt2 Z B H0) RL cL_law wsL_law 34) (hr : meth.sig.returnType = (some .boolean)) (hlx : l.stackTraces = false) (hH : ∀ q : Nat, q < B → s.heap[q]? = H0[q]?) (hne : ∀ x ∈ c.exceptionTable.toList, False) (hH0 : H0.size = B) {Q : State → Prop} : ∀ (M : gMem) (kc : Nat) (kn : Nat) (x2 : Option Nat) (x3 : Option Nat) (x4 : Int32) (x5 : Int32) (x6 : Int32) (x7 : Int32) (x8 : Int32) (x9 : Int32) (x10 : Option Nat) (x11 : Option Nat) (x12 : Int32) (x13 : Int32) (z : (gMem × Nat × Nat × Int32) ⊕ ((gMem × Nat × Nat × Int32) ⊕ ((Nat ⊕ Int32) × gMem))), lp_L_law_269 Z M kc kn x2 x3 x4 x5 x6 x7 x8 x9 x10 x11 x12 x13 = some z → (Sum.elim (fun (q : gMem × Nat × Nat × Int32) => gGo p l e rL_law s m args below meth c D cy B H0 34 q.2.1 q.2.2.1 Q 259 [(0, vR (some (Z 400))), (2, vR x2), (3, vR x3), (4, vI x4), (5, vI x5), (6, vI x6), (7, vI x7), (8, vI x8), (9, vI x9), (10, vR x10), (11, vR x11), (12, vI q.2.2.2)] [] q.1) (Sum.elim (fun (q : gMem × Nat × Nat × Int32) => gGo p l e rL_law s m args below meth c D cy B H0 34 q.2.1 q.2.2.1 Q 59 [(0, vR (some (Z 400))), (2, vR x2), (3, vR x3), (4, vI x4), (5, vI x5), (6, vI x6), (7, vI q.2.2.2)] [] q.1) (fun (r : (Nat ⊕ Int32) × gMem) => Q = gMX below D cy B H0 args s 600086 7301442 (gzI r.1) r.2))) z → gGo p l e rL_law s m args below meth c D cy B H0 34 kc kn Q 269 [(0, vR (some (Z 400))), (2, vR x2), (3, vR x3), (4, vI x4), (5, vI x5), (6, vI x6), (7, vI x7), (8, vI x8), (9, vI x9), (10, vR x10), (11, vR x11), (12, vI x12), (13, vI x13)] [] M := by
  intro M kc kn x2 x3 x4 x5 x6 x7 x8 x9 x10 x11 x12 x13 z hf hK
  refine lp_ind (P := (fun (q : gMem × Nat × Nat × Int32) (z : (gMem × Nat × Nat × Int32) ⊕ ((gMem × Nat × Nat × Int32) ⊕ ((Nat ⊕ Int32) × gMem))) => (Sum.elim (fun (q : gMem × Nat × Nat × Int32) => gGo p l e rL_law s m args below meth c D cy B H0 34 q.2.1 q.2.2.1 Q 259 [(0, vR (some (Z 400))), (2, vR x2), (3, vR x3), (4, vI x4), (5, vI x5), (6, vI x6), (7, vI x7), (8, vI x8), (9, vI x9), (10, vR x10), (11, vR x11), (12, vI q.2.2.2)] [] q.1) (Sum.elim (fun (q : gMem × Nat × Nat × Int32) => gGo p l e rL_law s m args below meth c D cy B H0 34 q.2.1 q.2.2.1 Q 59 [(0, vR (some (Z 400))), (2, vR x2), (3, vR x3), (4, vI x4), (5, vI x5), (6, vI x6), (7, vI q.2.2.2)] [] q.1) (fun (r : (Nat ⊕ Int32) × gMem) => Q = gMX below D cy B H0 args s 600086 7301442 (gzI r.1) r.2))) z → gGo p l e rL_law s m args below meth c D cy B H0 34 q.2.1 q.2.2.1 Q 269 [(0, vR (some (Z 400))), (2, vR x2), (3, vR x3), (4, vI x4), (5, vI x5), (6, vI x6), (7, vI x7), (8, vI x8), (9, vI x9), (10, vR x10), (11, vR x11), (12, vI x12), (13, vI q.2.2.2)] [] q.1)) (fun q z hq => ?_) _ _ hf hK
  intro hK
  obtain ⟨w, hw, hm⟩ := hq
  refine tb_L_law_269 X2 hr hlx hH hne hH0 _ _ _ _ _ _ _ _ _ _ _ _ _ _ _ w hw ?_
  cases w with
  | inl a => exact hm hK
  | inr b => cases hm; exact hK
set_option maxHeartbeats 4000000 in
set_option maxRecDepth 100000 in
theorem tb_L_law_259 (X2 : gX p s m args meth c D cy B (gSt2 Z B H0) RL cL_law wsL_law 34) (hr : meth.sig.returnType = (some .boolean)) (hlx : l.stackTraces = false) (hH : ∀ q : Nat, q < B → s.heap[q]? = H0[q]?) (hne : ∀ x ∈ c.exceptionTable.toList, False) (hH0 : H0.size = B) {Q : State → Prop} : ∀ (M : gMem) (kc : Nat) (kn : Nat) (x2 : Option Nat) (x3 : Option Nat) (x4 : Int32) (x5 : Int32) (x6 : Int32) (x7 : Int32) (x8 : Int32) (x9 : Int32) (x10 : Option Nat) (x11 : Option Nat) (x12 : Int32) (z : (gMem × Nat × Nat × Int32) ⊕ ((gMem × Nat × Nat × Int32) ⊕ ((Nat ⊕ Int32) × gMem))), bb_L_law_259 Z M kc kn x2 x3 x4 x5 x6 x7 x8 x9 x10 x11 x12 = some z → (Sum.elim (fun (q : gMem × Nat × Nat × Int32) => gGo p l e rL_law s m args below meth c D cy B H0 34 q.2.1 q.2.2.1 Q 259 [(0, vR (some (Z 400))), (2, vR x2), (3, vR x3), (4, vI x4), (5, vI x5), (6, vI x6), (7, vI x7), (8, vI x8), (9, vI x9), (10, vR x10), (11, vR x11), (12, vI q.2.2.2)] [] q.1) (Sum.elim (fun (q : gMem × Nat × Nat × Int32) => gGo p l e rL_law s m args below meth c D cy B H0 34 q.2.1 q.2.2.1 Q 59 [(0, vR (some (Z 400))), (2, vR x2), (3, vR x3), (4, vI x4), (5, vI x5), (6, vI x6), (7, vI q.2.2.2)] [] q.1) (fun (r : (Nat ⊕ Int32) × gMem) => Q = gMX below D cy B H0 args s 600086 7301442 (gzI r.1) r.2))) z → gGo p l e rL_law s m args below meth c D cy B H0 34 kc kn Q 259 [(0, vR (some (Z 400))), (2, vR x2), (3, vR x3), (4, vI x4), (5, vI x5), (6, vI x6), (7, vI x7), (8, vI x8), (9, vI x9), (10, vR x10), (11, vR x11), (12, vI x12)] [] M := by
  intro M kc kn x2 x3 x4 x5 x6 x7 x8 x9 x10 x11 x12 z hf hK
  unfold bb_L_law_259 at hf
  have X := gX_w X2
  refine g_iload X dL_law_259 rfl ?_
  refine g_iload X dL_law_261 rfl ?_
  refine g_icmp_ge (tgt := 304) X dL_law_263 (by decide) (fun hc => ?_) (fun hc => ?_)
  · have hf := ife_t hc hf
    refine g_iload X dL_law_304 rfl ?_
    refine g_bipush (v := (7 : Int32)) X dL_law_306 (by decide) ?_
    obtain ⟨hg591, hf⟩ := ck_e hf
    obtain ⟨hg592, hf⟩ := ck_e hf
    obtain ⟨hg593, hf⟩ := ck_e hf
    refine g_mnew (N := 8) (K := 7) X (gN2w X2 _ (by decide +kernel)) k_L_law_cl212 k_L_law_acint hg591 hg592 (by decide) (by decide) ⟨hg593.1, hg593.2⟩ dL_law_308 (by decide) ?_
    obtain ⟨M594, hM594, hf⟩ := lw_e hf
    rw [← hM594]
    refine g_astore (lv' := [(12, vR (some (mN M))), (0, vR (some (Z 400))), (2, vR x2), (3, vR x3), (4, vI x4), (5, vI x5), (6, vI x6), (7, vI x7), (8, vI x8), (9, vI x9), (10, vR x10), (11, vR x11)]) X dL_law_312 (by decide) rfl ?_
    refine g_iconst (v := (0 : Int32)) X dL_law_314 (by decide) ?_
    refine g_istore (lv' := [(13, vI (0 : Int32)), (12, vR (some (mN M))), (0, vR (some (Z 400))), (2, vR x2), (3, vR x3), (4, vI x4), (5, vI x5), (6, vI x6), (7, vI x7), (8, vI x8), (9, vI x9), (10, vR x10), (11, vR x11)]) X dL_law_315 (by decide) rfl ?_
    obtain ⟨w595, hw595, hz595⟩ := oI_e hf
    subst hz595
    have hf := hw595
    refine g_sub (lvsub_of _ _ [2, 3, 4, 5, 6, 7, 8, 9, 10, 11, 12, 1, 0] rfl) ?_
    exact tl_L_law_317 X2 hr hlx hH hne hH0 _ _ _ _ _ _ _ _ _ _ _ _ _ _ _ _ hf hK
  · have hf := ife_f hc hf
    refine g_iconst (v := (0 : Int32)) X dL_law_266 (by decide) ?_
    refine g_istore (lv' := [(13, vI (0 : Int32)), (0, vR (some (Z 400))), (2, vR x2), (3, vR x3), (4, vI x4), (5, vI x5), (6, vI x6), (7, vI x7), (8, vI x8), (9, vI x9), (10, vR x10), (11, vR x11), (12, vI x12)]) X dL_law_267 (by decide) rfl ?_
    refine g_sub (lvsub_of _ _ [1, 2, 3, 4, 5, 6, 7, 8, 9, 10, 11, 12, 0] rfl) ?_
    exact tl_L_law_269 X2 hr hlx hH hne hH0 _ _ _ _ _ _ _ _ _ _ _ _ _ _ _ _ hf hK
set_option maxHeartbeats 4000000 in
set_option maxRecDepth 100000 in
theorem tl_L_law_259 (X2 : gX p s m args meth c D cy B (gSt2 Z B H0) RL cL_law wsL_law 34) (hr : meth.sig.returnType = (some .boolean)) (hlx : l.stackTraces = false) (hH : ∀ q : Nat, q < B → s.heap[q]? = H0[q]?) (hne : ∀ x ∈ c.exceptionTable.toList, False) (hH0 : H0.size = B) {Q : State → Prop} : ∀ (M : gMem) (kc : Nat) (kn : Nat) (x2 : Option Nat) (x3 : Option Nat) (x4 : Int32) (x5 : Int32) (x6 : Int32) (x7 : Int32) (x8 : Int32) (x9 : Int32) (x10 : Option Nat) (x11 : Option Nat) (x12 : Int32) (z : (gMem × Nat × Nat × Int32) ⊕ ((Nat ⊕ Int32) × gMem)), lp_L_law_259 Z M kc kn x2 x3 x4 x5 x6 x7 x8 x9 x10 x11 x12 = some z → (Sum.elim (fun (q : gMem × Nat × Nat × Int32) => gGo p l e rL_law s m args below meth c D cy B H0 34 q.2.1 q.2.2.1 Q 59 [(0, vR (some (Z 400))), (2, vR x2), (3, vR x3), (4, vI x4), (5, vI x5), (6, vI x6), (7, vI q.2.2.2)] [] q.1) (fun (r : (Nat ⊕ Int32) × gMem) => Q = gMX below D cy B H0 args s 600086 7301442 (gzI r.1) r.2)) z → gGo p l e rL_law s m args below meth c D cy B H0 34 kc kn Q 259 [(0, vR (some (Z 400))), (2, vR x2), (3, vR x3), (4, vI x4), (5, vI x5), (6, vI x6), (7, vI x7), (8, vI x8), (9, vI x9), (10, vR x10), (11, vR x11), (12, vI x12)] [] M := by
  intro M kc kn x2 x3 x4 x5 x6 x7 x8 x9 x10 x11 x12 z hf hK
  refine lp_ind (P := (fun (q : gMem × Nat × Nat × Int32) (z : (gMem × Nat × Nat × Int32) ⊕ ((Nat ⊕ Int32) × gMem)) => (Sum.elim (fun (q : gMem × Nat × Nat × Int32) => gGo p l e rL_law s m args below meth c D cy B H0 34 q.2.1 q.2.2.1 Q 59 [(0, vR (some (Z 400))), (2, vR x2), (3, vR x3), (4, vI x4), (5, vI x5), (6, vI x6), (7, vI q.2.2.2)] [] q.1) (fun (r : (Nat ⊕ Int32) × gMem) => Q = gMX below D cy B H0 args s 600086 7301442 (gzI r.1) r.2)) z → gGo p l e rL_law s m args below meth c D cy B H0 34 q.2.1 q.2.2.1 Q 259 [(0, vR (some (Z 400))), (2, vR x2), (3, vR x3), (4, vI x4), (5, vI x5), (6, vI x6), (7, vI x7), (8, vI x8), (9, vI x9), (10, vR x10), (11, vR x11), (12, vI q.2.2.2)] [] q.1)) (fun q z hq => ?_) _ _ hf hK
  intro hK
  obtain ⟨w, hw, hm⟩ := hq
  refine tb_L_law_259 X2 hr hlx hH hne hH0 _ _ _ _ _ _ _ _ _ _ _ _ _ _ w hw ?_
  cases w with
  | inl a => exact hm hK
  | inr b => cases hm; exact hK
set_option maxHeartbeats 4000000 in
set_option maxRecDepth 100000 in
theorem tb_L_law_211 (X2 : gX p s m args meth c D cy B (gSt2 Z B H0) RL cL_law wsL_law 34) (hr : meth.sig.returnType = (some .boolean)) (hlx : l.stackTraces = false) (hH : ∀ q : Nat, q < B → s.heap[q]? = H0[q]?) (hne : ∀ x ∈ c.exceptionTable.toList, False) (hH0 : H0.size = B) {Q : State → Prop} : ∀ (M : gMem) (kc : Nat) (kn : Nat) (x2 : Option Nat) (x3 : Option Nat) (x4 : Int32) (x5 : Int32) (x6 : Int32) (x7 : Int32) (x8 : Int32) (x9 : Int32) (x10 : Option Nat) (x11 : Int32) (x12 : Int32) (z : (gMem × Nat × Nat × Int32) ⊕ ((gMem × Nat × Nat × Int32) ⊕ ((gMem × Nat × Nat × Int32) ⊕ ((Nat ⊕ Int32) × gMem)))), bb_L_law_211 Z M kc kn x2 x3 x4 x5 x6 x7 x8 x9 x10 x11 x12 = some z → (Sum.elim (fun (q : gMem × Nat × Nat × Int32) => gGo p l e rL_law s m args below meth c D cy B H0 34 q.2.1 q.2.2.1 Q 211 [(0, vR (some (Z 400))), (2, vR x2), (3, vR x3), (4, vI x4), (5, vI x5), (6, vI x6), (7, vI x7), (8, vI x8), (9, vI x9), (10, vR x10), (11, vI x11), (12, vI q.2.2.2)] [] q.1) (Sum.elim (fun (q : gMem × Nat × Nat × Int32) => gGo p l e rL_law s m args below meth c D cy B H0 34 q.2.1 q.2.2.1 Q 201 [(0, vR (some (Z 400))), (2, vR x2), (3, vR x3), (4, vI x4), (5, vI x5), (6, vI x6), (7, vI x7), (8, vI x8), (9, vI x9), (10, vR x10), (11, vI q.2.2.2)] [] q.1) (Sum.elim (fun (q : gMem × Nat × Nat × Int32) => gGo p l e rL_law s m args below meth c D cy B H0 34 q.2.1 q.2.2.1 Q 59 [(0, vR (some (Z 400))), (2, vR x2), (3, vR x3), (4, vI x4), (5, vI x5), (6, vI x6), (7, vI q.2.2.2)] [] q.1) (fun (r : (Nat ⊕ Int32) × gMem) => Q = gMX below D cy B H0 args s 600086 7301442 (gzI r.1) r.2)))) z → gGo p l e rL_law s m args below meth c D cy B H0 34 kc kn Q 211 [(0, vR (some (Z 400))), (2, vR x2), (3, vR x3), (4, vI x4), (5, vI x5), (6, vI x6), (7, vI x7), (8, vI x8), (9, vI x9), (10, vR x10), (11, vI x11), (12, vI x12)] [] M := by
  intro M kc kn x2 x3 x4 x5 x6 x7 x8 x9 x10 x11 x12 z hf hK
  unfold bb_L_law_211 at hf
  have X := gX_w X2
  refine g_iload X dL_law_211 rfl ?_
  refine g_bipush (v := (10 : Int32)) X dL_law_213 (by decide) ?_
  refine g_icmp_ge (tgt := 240) X dL_law_215 (by decide) (fun hc => ?_) (fun hc => ?_)
  · have hf := ife_t hc hf
    refine g_iinc (v := (1 : Int32)) (lv' := [(11, vI (x11 + (1 : Int32))), (0, vR (some (Z 400))), (2, vR x2), (3, vR x3), (4, vI x4), (5, vI x5), (6, vI x6), (7, vI x7), (8, vI x8), (9, vI x9), (10, vR x10), (12, vI x12)]) X dL_law_240 rfl (by decide) (by decide) rfl ?_
    refine g_goto (tgt := 201) X dL_law_243 (by decide) ?_
    obtain ⟨w596, hw596, hz596⟩ := oI_e hf
    subst hz596
    have hf := hw596
    cases hf
    refine g_sub (lvsub_of _ _ [1, 2, 3, 4, 5, 6, 7, 8, 9, 10, 0] rfl) ?_
    exact hK
  · have hf := ife_f hc hf
    refine g_aload X dL_law_218 rfl ?_
    refine g_iload X dL_law_220 rfl ?_
    obtain ⟨a597, ha597, hf⟩ := dr_e hf
    obtain ⟨hT598, hf⟩ := ck_e hf
    obtain ⟨hg599, hf⟩ := ck_e hf
    refine g_aaldA X dL_law_222 ha597 hT598 hg599 ?_
    refine g_iload X dL_law_223 rfl ?_
    refine g_aload_n X dL_law_225 rfl rfl ?_
    refine g_iload X dL_law_226 rfl ?_
    refine g_iload X dL_law_228 rfl ?_
    obtain ⟨a601, ha601, hf⟩ := dr_e hf
    obtain ⟨hT602, hf⟩ := ck_e hf
    obtain ⟨hg603, hf⟩ := ck_e hf
    rcases bx_e hf with ⟨e600, M600, hq600, hf⟩ | ⟨r600, M600, hq600, hf⟩
    · obtain ⟨w604, hw604, hz604⟩ := oI_e hf
      subst hz604
      have hf := hw604
      obtain ⟨w605, hw605, hz605⟩ := oI_e hf
      subst hz605
      have hf := hw605
      obtain ⟨w606, hw606, hz606⟩ := oI_e hf
      subst hz606
      have hf := hw606
      cases hf
      refine g_eqQ hK ?_
      exact g_callTV (ci := 9) (b := a601) (As := [vI x11, vI x12]) (st := [vI x12, vR (mR M a597 x11.toNatClampNeg)]) (M1 := M600) X2 hne (m_X11_fisher l hlx hH0 hq600) (cwV 2 X.2.2.1 gL_law_X11_fisher rfl rfl rfl (by decide +kernel) ⟨Nat.le_of_ble_eq_true rfl, Nat.le_of_ble_eq_true rfl⟩) rfl rfl ha601 hT602 (by decide) rfl (Nat.le_of_ble_eq_true rfl) dL_law_230 ⟨hg603.1, hg603.2⟩ hg603.1 hg603.2
    refine g_callXV (ci := 9) (b := a601) (As := [vI x11, vI x12]) (st := [vI x12, vR (mR M a597 x11.toNatClampNeg)]) (v := some (vI r600)) (M1 := M600) X2 (m_X11_fisher l hlx hH0 hq600) (cwV 2 X.2.2.1 gL_law_X11_fisher rfl rfl rfl (by decide +kernel) ⟨Nat.le_of_ble_eq_true rfl, Nat.le_of_ble_eq_true rfl⟩) rfl rfl ha601 hT602 (by decide) rfl (Nat.le_of_ble_eq_true rfl) dL_law_230 ⟨hg603.1, hg603.2⟩ ?_
    obtain ⟨a607, ha607, hf⟩ := dr_e hf
    obtain ⟨hT608, hf⟩ := ck_e hf
    obtain ⟨hg609, hf⟩ := ck_e hf
    refine g_iast X dL_law_233 ha607 hT608 hg609 ?_
    obtain ⟨M610, hM610, hf⟩ := lw_e hf
    rw [← hM610]
    have hT611 : mT M610 a607 = 20 := by rw [hM610]; exact hT608
    refine g_iinc (v := (1 : Int32)) (lv' := [(12, vI (x12 + (1 : Int32))), (0, vR (some (Z 400))), (2, vR x2), (3, vR x3), (4, vI x4), (5, vI x5), (6, vI x6), (7, vI x7), (8, vI x8), (9, vI x9), (10, vR x10), (11, vI x11)]) X dL_law_234 rfl (by decide) (by decide) rfl ?_
    refine g_goto (tgt := 211) X dL_law_237 (by decide) ?_
    cases hf
    refine g_sub (lvsub_of _ _ [1, 2, 3, 4, 5, 6, 7, 8, 9, 10, 11, 0] rfl) ?_
    exact hK
set_option maxHeartbeats 4000000 in
set_option maxRecDepth 100000 in
theorem tl_L_law_211 (X2 : gX p s m args meth c D cy B (gSt2 Z B H0) RL cL_law wsL_law 34) (hr : meth.sig.returnType = (some .boolean)) (hlx : l.stackTraces = false) (hH : ∀ q : Nat, q < B → s.heap[q]? = H0[q]?) (hne : ∀ x ∈ c.exceptionTable.toList, False) (hH0 : H0.size = B) {Q : State → Prop} : ∀ (M : gMem) (kc : Nat) (kn : Nat) (x2 : Option Nat) (x3 : Option Nat) (x4 : Int32) (x5 : Int32) (x6 : Int32) (x7 : Int32) (x8 : Int32) (x9 : Int32) (x10 : Option Nat) (x11 : Int32) (x12 : Int32) (z : (gMem × Nat × Nat × Int32) ⊕ ((gMem × Nat × Nat × Int32) ⊕ ((Nat ⊕ Int32) × gMem))), lp_L_law_211 Z M kc kn x2 x3 x4 x5 x6 x7 x8 x9 x10 x11 x12 = some z → (Sum.elim (fun (q : gMem × Nat × Nat × Int32) => gGo p l e rL_law s m args below meth c D cy B H0 34 q.2.1 q.2.2.1 Q 201 [(0, vR (some (Z 400))), (2, vR x2), (3, vR x3), (4, vI x4), (5, vI x5), (6, vI x6), (7, vI x7), (8, vI x8), (9, vI x9), (10, vR x10), (11, vI q.2.2.2)] [] q.1) (Sum.elim (fun (q : gMem × Nat × Nat × Int32) => gGo p l e rL_law s m args below meth c D cy B H0 34 q.2.1 q.2.2.1 Q 59 [(0, vR (some (Z 400))), (2, vR x2), (3, vR x3), (4, vI x4), (5, vI x5), (6, vI x6), (7, vI q.2.2.2)] [] q.1) (fun (r : (Nat ⊕ Int32) × gMem) => Q = gMX below D cy B H0 args s 600086 7301442 (gzI r.1) r.2))) z → gGo p l e rL_law s m args below meth c D cy B H0 34 kc kn Q 211 [(0, vR (some (Z 400))), (2, vR x2), (3, vR x3), (4, vI x4), (5, vI x5), (6, vI x6), (7, vI x7), (8, vI x8), (9, vI x9), (10, vR x10), (11, vI x11), (12, vI x12)] [] M := by
  intro M kc kn x2 x3 x4 x5 x6 x7 x8 x9 x10 x11 x12 z hf hK
  refine lp_ind (P := (fun (q : gMem × Nat × Nat × Int32) (z : (gMem × Nat × Nat × Int32) ⊕ ((gMem × Nat × Nat × Int32) ⊕ ((Nat ⊕ Int32) × gMem))) => (Sum.elim (fun (q : gMem × Nat × Nat × Int32) => gGo p l e rL_law s m args below meth c D cy B H0 34 q.2.1 q.2.2.1 Q 201 [(0, vR (some (Z 400))), (2, vR x2), (3, vR x3), (4, vI x4), (5, vI x5), (6, vI x6), (7, vI x7), (8, vI x8), (9, vI x9), (10, vR x10), (11, vI q.2.2.2)] [] q.1) (Sum.elim (fun (q : gMem × Nat × Nat × Int32) => gGo p l e rL_law s m args below meth c D cy B H0 34 q.2.1 q.2.2.1 Q 59 [(0, vR (some (Z 400))), (2, vR x2), (3, vR x3), (4, vI x4), (5, vI x5), (6, vI x6), (7, vI q.2.2.2)] [] q.1) (fun (r : (Nat ⊕ Int32) × gMem) => Q = gMX below D cy B H0 args s 600086 7301442 (gzI r.1) r.2))) z → gGo p l e rL_law s m args below meth c D cy B H0 34 q.2.1 q.2.2.1 Q 211 [(0, vR (some (Z 400))), (2, vR x2), (3, vR x3), (4, vI x4), (5, vI x5), (6, vI x6), (7, vI x7), (8, vI x8), (9, vI x9), (10, vR x10), (11, vI x11), (12, vI q.2.2.2)] [] q.1)) (fun q z hq => ?_) _ _ hf hK
  intro hK
  obtain ⟨w, hw, hm⟩ := hq
  refine tb_L_law_211 X2 hr hlx hH hne hH0 _ _ _ _ _ _ _ _ _ _ _ _ _ _ w hw ?_
  cases w with
  | inl a => exact hm hK
  | inr b => cases hm; exact hK
set_option maxHeartbeats 4000000 in
set_option maxRecDepth 100000 in
theorem tb_L_law_201 (X2 : gX p s m args meth c D cy B (gSt2 Z B H0) RL cL_law wsL_law 34) (hr : meth.sig.returnType = (some .boolean)) (hlx : l.stackTraces = false) (hH : ∀ q : Nat, q < B → s.heap[q]? = H0[q]?) (hne : ∀ x ∈ c.exceptionTable.toList, False) (hH0 : H0.size = B) {Q : State → Prop} : ∀ (M : gMem) (kc : Nat) (kn : Nat) (x2 : Option Nat) (x3 : Option Nat) (x4 : Int32) (x5 : Int32) (x6 : Int32) (x7 : Int32) (x8 : Int32) (x9 : Int32) (x10 : Option Nat) (x11 : Int32) (z : (gMem × Nat × Nat × Int32) ⊕ ((gMem × Nat × Nat × Int32) ⊕ ((Nat ⊕ Int32) × gMem))), bb_L_law_201 Z M kc kn x2 x3 x4 x5 x6 x7 x8 x9 x10 x11 = some z → (Sum.elim (fun (q : gMem × Nat × Nat × Int32) => gGo p l e rL_law s m args below meth c D cy B H0 34 q.2.1 q.2.2.1 Q 201 [(0, vR (some (Z 400))), (2, vR x2), (3, vR x3), (4, vI x4), (5, vI x5), (6, vI x6), (7, vI x7), (8, vI x8), (9, vI x9), (10, vR x10), (11, vI q.2.2.2)] [] q.1) (Sum.elim (fun (q : gMem × Nat × Nat × Int32) => gGo p l e rL_law s m args below meth c D cy B H0 34 q.2.1 q.2.2.1 Q 59 [(0, vR (some (Z 400))), (2, vR x2), (3, vR x3), (4, vI x4), (5, vI x5), (6, vI x6), (7, vI q.2.2.2)] [] q.1) (fun (r : (Nat ⊕ Int32) × gMem) => Q = gMX below D cy B H0 args s 600086 7301442 (gzI r.1) r.2))) z → gGo p l e rL_law s m args below meth c D cy B H0 34 kc kn Q 201 [(0, vR (some (Z 400))), (2, vR x2), (3, vR x3), (4, vI x4), (5, vI x5), (6, vI x6), (7, vI x7), (8, vI x8), (9, vI x9), (10, vR x10), (11, vI x11)] [] M := by
  intro M kc kn x2 x3 x4 x5 x6 x7 x8 x9 x10 x11 z hf hK
  unfold bb_L_law_201 at hf
  have X := gX_w X2
  refine g_iload X dL_law_201 rfl ?_
  refine g_iload X dL_law_203 rfl ?_
  refine g_icmp_ge (tgt := 246) X dL_law_205 (by decide) (fun hc => ?_) (fun hc => ?_)
  · have hf := ife_t hc hf
    refine g_iload X dL_law_246 rfl ?_
    refine g_bipush (v := (9 : Int32)) X dL_law_248 (by decide) ?_
    obtain ⟨hg612, hf⟩ := ck_e hf
    obtain ⟨hg613, hf⟩ := ck_e hf
    obtain ⟨hg614, hf⟩ := ck_e hf
    refine g_mnew (N := 8) (K := 9) X (gN2w X2 _ (by decide +kernel)) k_L_law_cl212 k_L_law_acint hg612 hg613 (by decide) (by decide) ⟨hg614.1, hg614.2⟩ dL_law_250 (by decide) ?_
    obtain ⟨M615, hM615, hf⟩ := lw_e hf
    rw [← hM615]
    refine g_astore (lv' := [(11, vR (some (mN M))), (0, vR (some (Z 400))), (2, vR x2), (3, vR x3), (4, vI x4), (5, vI x5), (6, vI x6), (7, vI x7), (8, vI x8), (9, vI x9), (10, vR x10)]) X dL_law_254 (by decide) rfl ?_
    refine g_iconst (v := (0 : Int32)) X dL_law_256 (by decide) ?_
    refine g_istore (lv' := [(12, vI (0 : Int32)), (11, vR (some (mN M))), (0, vR (some (Z 400))), (2, vR x2), (3, vR x3), (4, vI x4), (5, vI x5), (6, vI x6), (7, vI x7), (8, vI x8), (9, vI x9), (10, vR x10)]) X dL_law_257 (by decide) rfl ?_
    obtain ⟨w616, hw616, hz616⟩ := oI_e hf
    subst hz616
    have hf := hw616
    refine g_sub (lvsub_of _ _ [2, 3, 4, 5, 6, 7, 8, 9, 10, 11, 1, 0] rfl) ?_
    exact tl_L_law_259 X2 hr hlx hH hne hH0 _ _ _ _ _ _ _ _ _ _ _ _ _ _ _ hf hK
  · have hf := ife_f hc hf
    refine g_iconst (v := (0 : Int32)) X dL_law_208 (by decide) ?_
    refine g_istore (lv' := [(12, vI (0 : Int32)), (0, vR (some (Z 400))), (2, vR x2), (3, vR x3), (4, vI x4), (5, vI x5), (6, vI x6), (7, vI x7), (8, vI x8), (9, vI x9), (10, vR x10), (11, vI x11)]) X dL_law_209 (by decide) rfl ?_
    refine g_sub (lvsub_of _ _ [1, 2, 3, 4, 5, 6, 7, 8, 9, 10, 11, 0] rfl) ?_
    exact tl_L_law_211 X2 hr hlx hH hne hH0 _ _ _ _ _ _ _ _ _ _ _ _ _ _ _ hf hK
set_option maxHeartbeats 4000000 in
set_option maxRecDepth 100000 in
theorem tl_L_law_201 (X2 : gX p s m args meth c D cy B (gSt2 Z B H0) RL cL_law wsL_law 34) (hr : meth.sig.returnType = (some .boolean)) (hlx : l.stackTraces = false) (hH : ∀ q : Nat, q < B → s.heap[q]? = H0[q]?) (hne : ∀ x ∈ c.exceptionTable.toList, False) (hH0 : H0.size = B) {Q : State → Prop} : ∀ (M : gMem) (kc : Nat) (kn : Nat) (x2 : Option Nat) (x3 : Option Nat) (x4 : Int32) (x5 : Int32) (x6 : Int32) (x7 : Int32) (x8 : Int32) (x9 : Int32) (x10 : Option Nat) (x11 : Int32) (z : (gMem × Nat × Nat × Int32) ⊕ ((Nat ⊕ Int32) × gMem)), lp_L_law_201 Z M kc kn x2 x3 x4 x5 x6 x7 x8 x9 x10 x11 = some z → (Sum.elim (fun (q : gMem × Nat × Nat × Int32) => gGo p l e rL_law s m args below meth c D cy B H0 34 q.2.1 q.2.2.1 Q 59 [(0, vR (some (Z 400))), (2, vR x2), (3, vR x3), (4, vI x4), (5, vI x5), (6, vI x6), (7, vI q.2.2.2)] [] q.1) (fun (r : (Nat ⊕ Int32) × gMem) => Q = gMX below D cy B H0 args s 600086 7301442 (gzI r.1) r.2)) z → gGo p l e rL_law s m args below meth c D cy B H0 34 kc kn Q 201 [(0, vR (some (Z 400))), (2, vR x2), (3, vR x3), (4, vI x4), (5, vI x5), (6, vI x6), (7, vI x7), (8, vI x8), (9, vI x9), (10, vR x10), (11, vI x11)] [] M := by
  intro M kc kn x2 x3 x4 x5 x6 x7 x8 x9 x10 x11 z hf hK
  refine lp_ind (P := (fun (q : gMem × Nat × Nat × Int32) (z : (gMem × Nat × Nat × Int32) ⊕ ((Nat ⊕ Int32) × gMem)) => (Sum.elim (fun (q : gMem × Nat × Nat × Int32) => gGo p l e rL_law s m args below meth c D cy B H0 34 q.2.1 q.2.2.1 Q 59 [(0, vR (some (Z 400))), (2, vR x2), (3, vR x3), (4, vI x4), (5, vI x5), (6, vI x6), (7, vI q.2.2.2)] [] q.1) (fun (r : (Nat ⊕ Int32) × gMem) => Q = gMX below D cy B H0 args s 600086 7301442 (gzI r.1) r.2)) z → gGo p l e rL_law s m args below meth c D cy B H0 34 q.2.1 q.2.2.1 Q 201 [(0, vR (some (Z 400))), (2, vR x2), (3, vR x3), (4, vI x4), (5, vI x5), (6, vI x6), (7, vI x7), (8, vI x8), (9, vI x9), (10, vR x10), (11, vI q.2.2.2)] [] q.1)) (fun q z hq => ?_) _ _ hf hK
  intro hK
  obtain ⟨w, hw, hm⟩ := hq
  refine tb_L_law_201 X2 hr hlx hH hne hH0 _ _ _ _ _ _ _ _ _ _ _ _ _ w hw ?_
  cases w with
  | inl a => exact hm hK
  | inr b => cases hm; exact hK
set_option maxHeartbeats 4000000 in
set_option maxRecDepth 100000 in
theorem t_L_law_188 (X2 : gX p s m args meth c D cy B (gSt2 Z B H0) RL cL_law wsL_law 34) (hr : meth.sig.returnType = (some .boolean)) (hlx : l.stackTraces = false) (hH : ∀ q : Nat, q < B → s.heap[q]? = H0[q]?) (hne : ∀ x ∈ c.exceptionTable.toList, False) (hH0 : H0.size = B) {Q : State → Prop} : ∀ (M : gMem) (kc : Nat) (kn : Nat) (x2 : Option Nat) (x3 : Option Nat) (x4 : Int32) (x5 : Int32) (x6 : Int32) (x7 : Int32) (x8 : Int32) (x9 : Int32) (z : (gMem × Nat × Nat × Int32) ⊕ ((Nat ⊕ Int32) × gMem)), b_L_law_188 Z M kc kn x2 x3 x4 x5 x6 x7 x8 x9 = some z → (Sum.elim (fun (q : gMem × Nat × Nat × Int32) => gGo p l e rL_law s m args below meth c D cy B H0 34 q.2.1 q.2.2.1 Q 59 [(0, vR (some (Z 400))), (2, vR x2), (3, vR x3), (4, vI x4), (5, vI x5), (6, vI x6), (7, vI q.2.2.2)] [] q.1) (fun (r : (Nat ⊕ Int32) × gMem) => Q = gMX below D cy B H0 args s 600086 7301442 (gzI r.1) r.2)) z → gGo p l e rL_law s m args below meth c D cy B H0 34 kc kn Q 188 [(0, vR (some (Z 400))), (2, vR x2), (3, vR x3), (4, vI x4), (5, vI x5), (6, vI x6), (7, vI x7), (8, vI x8), (9, vI x9)] [] M := by
  intro M kc kn x2 x3 x4 x5 x6 x7 x8 x9 z hf hK
  unfold b_L_law_188 at hf
  have X := gX_w X2
  refine g_iload X dL_law_188 rfl ?_
  refine g_bipush (v := (10 : Int32)) X dL_law_190 (by decide) ?_
  obtain ⟨hg617, hf⟩ := ck_e hf
  obtain ⟨hg618, hf⟩ := ck_e hf
  obtain ⟨hg619, hf⟩ := ck_e hf
  refine g_mnew (N := 8) (K := 10) X (gN2w X2 _ (by decide +kernel)) k_L_law_cl212 k_L_law_acint hg617 hg618 (by decide) (by decide) ⟨hg619.1, hg619.2⟩ dL_law_192 (by decide) ?_
  obtain ⟨M620, hM620, hf⟩ := lw_e hf
  rw [← hM620]
  refine g_astore (lv' := [(10, vR (some (mN M))), (0, vR (some (Z 400))), (2, vR x2), (3, vR x3), (4, vI x4), (5, vI x5), (6, vI x6), (7, vI x7), (8, vI x8), (9, vI x9)]) X dL_law_196 (by decide) rfl ?_
  refine g_iconst (v := (0 : Int32)) X dL_law_198 (by decide) ?_
  refine g_istore (lv' := [(11, vI (0 : Int32)), (10, vR (some (mN M))), (0, vR (some (Z 400))), (2, vR x2), (3, vR x3), (4, vI x4), (5, vI x5), (6, vI x6), (7, vI x7), (8, vI x8), (9, vI x9)]) X dL_law_199 (by decide) rfl ?_
  refine g_sub (lvsub_of _ _ [2, 3, 4, 5, 6, 7, 8, 9, 10, 1, 0] rfl) ?_
  exact tl_L_law_201 X2 hr hlx hH hne hH0 _ _ _ _ _ _ _ _ _ _ _ _ _ _ hf hK
set_option maxHeartbeats 4000000 in
set_option maxRecDepth 100000 in
theorem t_L_law_186 (X2 : gX p s m args meth c D cy B (gSt2 Z B H0) RL cL_law wsL_law 34) (hr : meth.sig.returnType = (some .boolean)) (hlx : l.stackTraces = false) (hH : ∀ q : Nat, q < B → s.heap[q]? = H0[q]?) (hne : ∀ x ∈ c.exceptionTable.toList, False) (hH0 : H0.size = B) {Q : State → Prop} : ∀ (M : gMem) (kc : Nat) (kn : Nat) (z : (Nat ⊕ Int32) × gMem), b_L_law_186 Z M kc kn = some z → (fun (r : (Nat ⊕ Int32) × gMem) => Q = gMX below D cy B H0 args s 600086 7301442 (gzI r.1) r.2) z → gGo p l e rL_law s m args below meth c D cy B H0 34 kc kn Q 186 [] [] M := by
  intro M kc kn z hf hK
  unfold b_L_law_186 at hf
  have X := gX_w X2
  refine g_iconst (v := (0 : Int32)) X dL_law_186 (by decide) ?_
  obtain ⟨hg621, hf⟩ := ck_e hf
  cases hf
  refine g_eqQ hK ?_
  refine g_wide (k' := 600086) (n' := 7301442) hg621.1 hg621.2 ?_
  refine g_xret ?_
  exact g_zret X hr (gnb (Or.inl rfl)) dL_law_187
set_option maxHeartbeats 4000000 in
set_option maxRecDepth 100000 in
theorem t_L_law_183 (X2 : gX p s m args meth c D cy B (gSt2 Z B H0) RL cL_law wsL_law 34) (hr : meth.sig.returnType = (some .boolean)) (hlx : l.stackTraces = false) (hH : ∀ q : Nat, q < B → s.heap[q]? = H0[q]?) (hne : ∀ x ∈ c.exceptionTable.toList, False) (hH0 : H0.size = B) {Q : State → Prop} : ∀ (M : gMem) (kc : Nat) (kn : Nat) (x2 : Option Nat) (x3 : Option Nat) (x4 : Int32) (x5 : Int32) (x6 : Int32) (x7 : Int32) (x8 : Int32) (x9 : Int32) (s0 : Int32) (s1 : Int32) (z : (gMem × Nat × Nat × Int32) ⊕ ((Nat ⊕ Int32) × gMem)), b_L_law_183 Z M kc kn x2 x3 x4 x5 x6 x7 x8 x9 s0 s1 = some z → (Sum.elim (fun (q : gMem × Nat × Nat × Int32) => gGo p l e rL_law s m args below meth c D cy B H0 34 q.2.1 q.2.2.1 Q 59 [(0, vR (some (Z 400))), (2, vR x2), (3, vR x3), (4, vI x4), (5, vI x5), (6, vI x6), (7, vI q.2.2.2)] [] q.1) (fun (r : (Nat ⊕ Int32) × gMem) => Q = gMX below D cy B H0 args s 600086 7301442 (gzI r.1) r.2)) z → gGo p l e rL_law s m args below meth c D cy B H0 34 kc kn Q 183 [(0, vR (some (Z 400))), (2, vR x2), (3, vR x3), (4, vI x4), (5, vI x5), (6, vI x6), (7, vI x7), (8, vI x8), (9, vI x9)] [vI s1, vI s0] M := by
  intro M kc kn x2 x3 x4 x5 x6 x7 x8 x9 s0 s1 z hf hK
  unfold b_L_law_183 at hf
  have X := gX_w X2
  refine g_icmp_eq (tgt := 188) X dL_law_183 (by decide) (fun hc => ?_) (fun hc => ?_)
  · have hf := ife_t hc hf
    refine g_sub (lvsub_of _ _ [0, 1, 2, 3, 4, 5, 6, 7, 8] rfl) ?_
    exact t_L_law_188 X2 hr hlx hH hne hH0 _ _ _ _ _ _ _ _ _ _ _ _ hf hK
  · have hf := ife_f hc hf
    obtain ⟨w622, hw622, hz622⟩ := oI_e hf
    subst hz622
    have hf := hw622
    refine g_sub (lvsub_of _ _ [] rfl) ?_
    exact t_L_law_186 X2 hr hlx hH hne hH0 _ _ _ _ hf hK
set_option maxHeartbeats 4000000 in
set_option maxRecDepth 100000 in
theorem t_L_law_161 (X2 : gX p s m args meth c D cy B (gSt2 Z B H0) RL cL_law wsL_law 34) (hr : meth.sig.returnType = (some .boolean)) (hlx : l.stackTraces = false) (hH : ∀ q : Nat, q < B → s.heap[q]? = H0[q]?) (hne : ∀ x ∈ c.exceptionTable.toList, False) (hH0 : H0.size = B) {Q : State → Prop} : ∀ (M : gMem) (kc : Nat) (kn : Nat) (x2 : Option Nat) (x3 : Option Nat) (x4 : Int32) (x5 : Int32) (x6 : Int32) (x7 : Int32) (x8 : Int32) (x9 : Int32) (x11 : Int32) (s0 : Int32) (s1 : Int32) (s2 : Int32) (z : (gMem × Nat × Nat × Int32) ⊕ ((Nat ⊕ Int32) × gMem)), b_L_law_161 Z M kc kn x2 x3 x4 x5 x6 x7 x8 x9 x11 s0 s1 s2 = some z → (Sum.elim (fun (q : gMem × Nat × Nat × Int32) => gGo p l e rL_law s m args below meth c D cy B H0 34 q.2.1 q.2.2.1 Q 59 [(0, vR (some (Z 400))), (2, vR x2), (3, vR x3), (4, vI x4), (5, vI x5), (6, vI x6), (7, vI q.2.2.2)] [] q.1) (fun (r : (Nat ⊕ Int32) × gMem) => Q = gMX below D cy B H0 args s 600086 7301442 (gzI r.1) r.2)) z → gGo p l e rL_law s m args below meth c D cy B H0 34 kc kn Q 161 [(0, vR (some (Z 400))), (2, vR x2), (3, vR x3), (4, vI x4), (5, vI x5), (6, vI x6), (7, vI x7), (8, vI x8), (9, vI x9), (11, vI x11)] [vI s2, vI s1, vI s0] M := by
  intro M kc kn x2 x3 x4 x5 x6 x7 x8 x9 x11 s0 s1 s2 z hf hK
  unfold b_L_law_161 at hf
  have X := gX_w X2
  refine g_iadd X dL_law_161 ?_
  refine g_icmp_ne (tgt := 186) X dL_law_162 (by decide) (fun hc => ?_) (fun hc => ?_)
  · have hf := ife_f hc hf
    obtain ⟨w623, hw623, hz623⟩ := oI_e hf
    subst hz623
    have hf := hw623
    refine g_sub (lvsub_of _ _ [] rfl) ?_
    exact t_L_law_186 X2 hr hlx hH hne hH0 _ _ _ _ hf hK
  · have hf := ife_t hc hf
    refine g_aload_n X dL_law_165 rfl rfl ?_
    refine g_iload X dL_law_166 rfl ?_
    refine g_bipush (v := (8 : Int32)) X dL_law_168 (by decide) ?_
    obtain ⟨a625, ha625, hf⟩ := dr_e hf
    obtain ⟨hT626, hf⟩ := ck_e hf
    obtain ⟨hg627, hf⟩ := ck_e hf
    rcases bx_e hf with ⟨e624, M624, hq624, hf⟩ | ⟨r624, M624, hq624, hf⟩
    · obtain ⟨w628, hw628, hz628⟩ := oI_e hf
      subst hz628
      have hf := hw628
      cases hf
      refine g_eqQ hK ?_
      exact g_callTV (ci := 9) (b := a625) (As := [vI x9, vI (8 : Int32)]) (st := []) (M1 := M624) X2 hne (m_X11_fisher l hlx hH0 hq624) (cwV 2 X.2.2.1 gL_law_X11_fisher rfl rfl rfl (by decide +kernel) ⟨Nat.le_of_ble_eq_true rfl, Nat.le_of_ble_eq_true rfl⟩) rfl rfl ha625 hT626 (by decide) rfl (Nat.le_of_ble_eq_true rfl) dL_law_170 ⟨hg627.1, hg627.2⟩ hg627.1 hg627.2
    refine g_callXV (ci := 9) (b := a625) (As := [vI x9, vI (8 : Int32)]) (st := []) (v := some (vI r624)) (M1 := M624) X2 (m_X11_fisher l hlx hH0 hq624) (cwV 2 X.2.2.1 gL_law_X11_fisher rfl rfl rfl (by decide +kernel) ⟨Nat.le_of_ble_eq_true rfl, Nat.le_of_ble_eq_true rfl⟩) rfl rfl ha625 hT626 (by decide) rfl (Nat.le_of_ble_eq_true rfl) dL_law_170 ⟨hg627.1, hg627.2⟩ ?_
    refine g_iload X dL_law_173 rfl ?_
    refine g_if_eq (tgt := 182) X dL_law_175 (by decide) (fun hc => ?_) (fun hc => ?_)
    · have hf := ife_t hc hf
      refine g_iconst (v := (0 : Int32)) X dL_law_182 (by decide) ?_
      refine g_sub (lvsub_of _ _ [0, 1, 2, 3, 4, 5, 6, 7, 8] rfl) ?_
      exact t_L_law_183 X2 hr hlx hH hne hH0 _ _ _ _ _ _ _ _ _ _ _ _ _ _ hf hK
    · have hf := ife_f hc hf
      refine g_iconst (v := (1 : Int32)) X dL_law_178 (by decide) ?_
      refine g_goto (tgt := 183) X dL_law_179 (by decide) ?_
      refine g_sub (lvsub_of _ _ [0, 1, 2, 3, 4, 5, 6, 7, 8] rfl) ?_
      exact t_L_law_183 X2 hr hlx hH hne hH0 _ _ _ _ _ _ _ _ _ _ _ _ _ _ hf hK
set_option maxHeartbeats 4000000 in
set_option maxRecDepth 100000 in
theorem t_L_law_139 (X2 : gX p s m args meth c D cy B (gSt2 Z B H0) RL cL_law wsL_law 34) (hr : meth.sig.returnType = (some .boolean)) (hlx : l.stackTraces = false) (hH : ∀ q : Nat, q < B → s.heap[q]? = H0[q]?) (hne : ∀ x ∈ c.exceptionTable.toList, False) (hH0 : H0.size = B) {Q : State → Prop} : ∀ (M : gMem) (kc : Nat) (kn : Nat) (x2 : Option Nat) (x3 : Option Nat) (x4 : Int32) (x5 : Int32) (x6 : Int32) (x7 : Int32) (x8 : Int32) (x9 : Int32) (x10 : Int32) (s0 : Int32) (z : (gMem × Nat × Nat × Int32) ⊕ ((Nat ⊕ Int32) × gMem)), b_L_law_139 Z M kc kn x2 x3 x4 x5 x6 x7 x8 x9 x10 s0 = some z → (Sum.elim (fun (q : gMem × Nat × Nat × Int32) => gGo p l e rL_law s m args below meth c D cy B H0 34 q.2.1 q.2.2.1 Q 59 [(0, vR (some (Z 400))), (2, vR x2), (3, vR x3), (4, vI x4), (5, vI x5), (6, vI x6), (7, vI q.2.2.2)] [] q.1) (fun (r : (Nat ⊕ Int32) × gMem) => Q = gMX below D cy B H0 args s 600086 7301442 (gzI r.1) r.2)) z → gGo p l e rL_law s m args below meth c D cy B H0 34 kc kn Q 139 [(0, vR (some (Z 400))), (2, vR x2), (3, vR x3), (4, vI x4), (5, vI x5), (6, vI x6), (7, vI x7), (8, vI x8), (9, vI x9), (10, vI x10)] [vI s0] M := by
  intro M kc kn x2 x3 x4 x5 x6 x7 x8 x9 x10 s0 z hf hK
  unfold b_L_law_139 at hf
  have X := gX_w X2
  refine g_istore (lv' := [(11, vI s0), (0, vR (some (Z 400))), (2, vR x2), (3, vR x3), (4, vI x4), (5, vI x5), (6, vI x6), (7, vI x7), (8, vI x8), (9, vI x9), (10, vI x10)]) X dL_law_139 (by decide) rfl ?_
  refine g_aload_n X dL_law_141 rfl rfl ?_
  refine g_iload X dL_law_142 rfl ?_
  refine g_iload X dL_law_144 rfl ?_
  obtain ⟨a630, ha630, hf⟩ := dr_e hf
  obtain ⟨hT631, hf⟩ := ck_e hf
  obtain ⟨hg632, hf⟩ := ck_e hf
  rcases bx_e hf with ⟨e629, M629, hq629, hf⟩ | ⟨r629, M629, hq629, hf⟩
  · obtain ⟨w633, hw633, hz633⟩ := oI_e hf
    subst hz633
    have hf := hw633
    cases hf
    refine g_eqQ hK ?_
    exact g_callTV (ci := 9) (b := a630) (As := [vI x9, vI s0]) (st := []) (M1 := M629) X2 hne (m_X11_cheat l hlx hH0 hq629) (cwV 2 X.2.2.1 gL_law_X11_cheat rfl rfl rfl (by decide +kernel) ⟨Nat.le_of_ble_eq_true rfl, Nat.le_of_ble_eq_true rfl⟩) rfl rfl ha630 hT631 (by decide) rfl (Nat.le_of_ble_eq_true rfl) dL_law_146 ⟨hg632.1, hg632.2⟩ hg632.1 hg632.2
  refine g_callXV (ci := 9) (b := a630) (As := [vI x9, vI s0]) (st := []) (v := some (vI r629)) (M1 := M629) X2 (m_X11_cheat l hlx hH0 hq629) (cwV 2 X.2.2.1 gL_law_X11_cheat rfl rfl rfl (by decide +kernel) ⟨Nat.le_of_ble_eq_true rfl, Nat.le_of_ble_eq_true rfl⟩) rfl rfl ha630 hT631 (by decide) rfl (Nat.le_of_ble_eq_true rfl) dL_law_146 ⟨hg632.1, hg632.2⟩ ?_
  refine g_iload X dL_law_149 rfl ?_
  refine g_iload X dL_law_151 rfl ?_
  refine g_if_eq (tgt := 160) X dL_law_153 (by decide) (fun hc => ?_) (fun hc => ?_)
  · have hf := ife_t hc hf
    refine g_iconst (v := (0 : Int32)) X dL_law_160 (by decide) ?_
    refine g_sub (lvsub_of _ _ [1, 2, 3, 4, 5, 6, 7, 8, 9, 0] rfl) ?_
    exact t_L_law_161 X2 hr hlx hH hne hH0 _ _ _ _ _ _ _ _ _ _ _ _ _ _ _ _ hf hK
  · have hf := ife_f hc hf
    refine g_iconst (v := (1 : Int32)) X dL_law_156 (by decide) ?_
    refine g_goto (tgt := 161) X dL_law_157 (by decide) ?_
    refine g_sub (lvsub_of _ _ [1, 2, 3, 4, 5, 6, 7, 8, 9, 0] rfl) ?_
    exact t_L_law_161 X2 hr hlx hH hne hH0 _ _ _ _ _ _ _ _ _ _ _ _ _ _ _ _ hf hK
set_option maxHeartbeats 4000000 in
set_option maxRecDepth 100000 in
theorem tb_L_law_59 (X2 : gX p s m args meth c D cy B (gSt2 Z B H0) RL cL_law wsL_law 34) (hr : meth.sig.returnType = (some .boolean)) (hlx : l.stackTraces = false) (hH : ∀ q : Nat, q < B → s.heap[q]? = H0[q]?) (hne : ∀ x ∈ c.exceptionTable.toList, False) (hH0 : H0.size = B) {Q : State → Prop} : ∀ (M : gMem) (kc : Nat) (kn : Nat) (x2 : Option Nat) (x3 : Option Nat) (x4 : Int32) (x5 : Int32) (x6 : Int32) (x7 : Int32) (z : (gMem × Nat × Nat × Int32) ⊕ ((Nat ⊕ Int32) × gMem)), bb_L_law_59 Z M kc kn x2 x3 x4 x5 x6 x7 = some z → (Sum.elim (fun (q : gMem × Nat × Nat × Int32) => gGo p l e rL_law s m args below meth c D cy B H0 34 q.2.1 q.2.2.1 Q 59 [(0, vR (some (Z 400))), (2, vR x2), (3, vR x3), (4, vI x4), (5, vI x5), (6, vI x6), (7, vI q.2.2.2)] [] q.1) (fun (r : (Nat ⊕ Int32) × gMem) => Q = gMX below D cy B H0 args s 600086 7301442 (gzI r.1) r.2)) z → gGo p l e rL_law s m args below meth c D cy B H0 34 kc kn Q 59 [(0, vR (some (Z 400))), (2, vR x2), (3, vR x3), (4, vI x4), (5, vI x5), (6, vI x6), (7, vI x7)] [] M := by
  intro M kc kn x2 x3 x4 x5 x6 x7 z hf hK
  unfold bb_L_law_59 at hf
  have X := gX_w X2
  refine g_iload X dL_law_59 rfl ?_
  refine g_bipush (v := (30 : Int32)) X dL_law_61 (by decide) ?_
  refine g_icmp_ge (tgt := 1594) X dL_law_63 (by decide) (fun hc => ?_) (fun hc => ?_)
  · have hf := ife_t hc hf
    refine g_iconst (v := (1 : Int32)) X dL_law_1594 (by decide) ?_
    obtain ⟨hg634, hf⟩ := ck_e hf
    obtain ⟨w635, hw635, hz635⟩ := oI_e hf
    subst hz635
    have hf := hw635
    cases hf
    refine g_eqQ hK ?_
    refine g_wide (k' := 600086) (n' := 7301442) hg634.1 hg634.2 ?_
    refine g_xret ?_
    exact g_zret X hr (gnb (Or.inr rfl)) dL_law_1595
  · have hf := ife_f hc hf
    refine g_aload_n X dL_law_66 rfl rfl ?_
    refine g_iload X dL_law_67 rfl ?_
    refine g_bipush (v := (16 : Int32)) X dL_law_69 (by decide) ?_
    refine g_irem X dL_law_71 (by decide) ?_
    obtain ⟨hg637, hf⟩ := ck_e hf
    obtain ⟨r636, M636, hq636, hf⟩ := bd_e hf
    refine g_callS (As := [vR (some (Z 400)), vI (x7 - x7 / (16 : Int32) * (16 : Int32))]) (st := []) (v := some (vI r636)) (M1 := M636) X2 (m_L_cell l hq636) (va_cwS 2 X.2.2.1 gL_law_L_cell rfl rfl rfl (by decide +kernel) ⟨Nat.le_of_ble_eq_true rfl, Nat.le_of_ble_eq_true rfl⟩) rfl rfl (Nat.le_of_ble_eq_true rfl) dL_law_72 ⟨hg637.1, hg637.2⟩ ?_
    refine g_iload X dL_law_75 rfl ?_
    refine g_bipush (v := (16 : Int32)) X dL_law_77 (by decide) ?_
    refine g_idiv X dL_law_79 (by decide) ?_
    refine g_bipush (v := (6 : Int32)) X dL_law_80 (by decide) ?_
    refine g_imul X dL_law_82 ?_
    refine g_ishr X dL_law_83 ?_
    refine g_istore (lv' := [(8, vI (r636 >>> (((x7 / (16 : Int32)) * (6 : Int32)) &&& 31))), (0, vR (some (Z 400))), (2, vR x2), (3, vR x3), (4, vI x4), (5, vI x5), (6, vI x6), (7, vI x7)]) X dL_law_84 (by decide) rfl ?_
    refine g_iload X dL_law_86 rfl ?_
    refine g_iconst (v := (3 : Int32)) X dL_law_88 (by decide) ?_
    refine g_ishr X dL_law_89 ?_
    refine g_iload X dL_law_90 rfl ?_
    obtain ⟨hg639, hf⟩ := ck_e hf
    obtain ⟨r638, M638, hq638, hf⟩ := bd_e hf
    refine g_callS (As := [vI ((r636 >>> (((x7 / (16 : Int32)) * (6 : Int32)) &&& 31)) >>> ((3 : Int32) &&& 31)), vI x4]) (st := []) (v := some (vI r638)) (M1 := M638) X (m_L_below l hq638) (va_cwS 2 X.2.2.1 gL_law_L_below rfl rfl rfl (by decide +kernel) ⟨Nat.le_of_ble_eq_true rfl, Nat.le_of_ble_eq_true rfl⟩) rfl rfl (Nat.le_of_ble_eq_true rfl) dL_law_92 ⟨hg639.1, hg639.2⟩ ?_
    refine g_istore (lv' := [(9, vI r638), (8, vI (r636 >>> (((x7 / (16 : Int32)) * (6 : Int32)) &&& 31))), (0, vR (some (Z 400))), (2, vR x2), (3, vR x3), (4, vI x4), (5, vI x5), (6, vI x6), (7, vI x7)]) X dL_law_95 (by decide) rfl ?_
    refine g_iload X dL_law_97 rfl ?_
    refine g_iconst (v := (4 : Int32)) X dL_law_99 (by decide) ?_
    obtain ⟨hg641, hf⟩ := ck_e hf
    obtain ⟨r640, M640, hq640, hf⟩ := bd_e hf
    refine g_callS (As := [vI (r636 >>> (((x7 / (16 : Int32)) * (6 : Int32)) &&& 31)), vI (4 : Int32)]) (st := []) (v := some (vI r640)) (M1 := M640) X (m_L_below l hq640) (va_cwS 2 X.2.2.1 gL_law_L_below rfl rfl rfl (by decide +kernel) ⟨Nat.le_of_ble_eq_true rfl, Nat.le_of_ble_eq_true rfl⟩) rfl rfl (Nat.le_of_ble_eq_true rfl) dL_law_100 ⟨hg641.1, hg641.2⟩ ?_
    refine g_if_ne (tgt := 188) X dL_law_103 (by decide) (fun hc => ?_) (fun hc => ?_)
    · have hf := ife_f hc hf
      refine g_sub (lvsub_of _ _ [2, 3, 4, 5, 6, 7, 8, 1, 0] rfl) ?_
      exact t_L_law_188 X2 hr hlx hH hne hH0 _ _ _ _ _ _ _ _ _ _ _ _ hf hK
    · have hf := ife_t hc hf
      refine g_aload_n X dL_law_106 rfl rfl ?_
      refine g_bipush (v := (8 : Int32)) X dL_law_107 (by decide) ?_
      obtain ⟨a643, ha643, hf⟩ := dr_e hf
      obtain ⟨hT644, hf⟩ := ck_e hf
      obtain ⟨hg645, hf⟩ := ck_e hf
      rcases bx_e hf with ⟨e642, M642, hq642, hf⟩ | ⟨r642, M642, hq642, hf⟩
      · obtain ⟨w646, hw646, hz646⟩ := oI_e hf
        subst hz646
        have hf := hw646
        cases hf
        refine g_eqQ hK ?_
        exact g_callTV (ci := 9) (b := a643) (As := [vI (8 : Int32)]) (st := []) (M1 := M642) X2 hne (m_X11_count l hlx hH0 hq642) (cwV 1 X.2.2.1 gL_law_X11_count rfl rfl rfl (by decide +kernel) ⟨Nat.le_of_ble_eq_true rfl, Nat.le_of_ble_eq_true rfl⟩) rfl rfl ha643 hT644 (by decide) rfl (Nat.le_of_ble_eq_true rfl) dL_law_109 ⟨hg645.1, hg645.2⟩ hg645.1 hg645.2
      refine g_callXV (ci := 9) (b := a643) (As := [vI (8 : Int32)]) (st := []) (v := some (vI r642)) (M1 := M642) X2 (m_X11_count l hlx hH0 hq642) (cwV 1 X.2.2.1 gL_law_X11_count rfl rfl rfl (by decide +kernel) ⟨Nat.le_of_ble_eq_true rfl, Nat.le_of_ble_eq_true rfl⟩) rfl rfl ha643 hT644 (by decide) rfl (Nat.le_of_ble_eq_true rfl) dL_law_109 ⟨hg645.1, hg645.2⟩ ?_
      refine g_aload_n X dL_law_112 rfl rfl ?_
      refine g_iload X dL_law_113 rfl ?_
      refine g_bipush (v := (8 : Int32)) X dL_law_115 (by decide) ?_
      obtain ⟨hT648, hf⟩ := ck_e hf
      obtain ⟨hg649, hf⟩ := ck_e hf
      rcases bx_e hf with ⟨e647, M647, hq647, hf⟩ | ⟨r647, M647, hq647, hf⟩
      · obtain ⟨w650, hw650, hz650⟩ := oI_e hf
        subst hz650
        have hf := hw650
        cases hf
        refine g_eqQ hK ?_
        exact g_callTV (ci := 9) (b := a643) (As := [vI r638, vI (8 : Int32)]) (st := [vI r642]) (M1 := M647) X2 hne (m_X11_fisher l hlx hH0 hq647) (cwV 2 X.2.2.1 gL_law_X11_fisher rfl rfl rfl (by decide +kernel) ⟨Nat.le_of_ble_eq_true rfl, Nat.le_of_ble_eq_true rfl⟩) rfl rfl ha643 hT648 (by decide) rfl (Nat.le_of_ble_eq_true rfl) dL_law_117 ⟨hg649.1, hg649.2⟩ hg649.1 hg649.2
      refine g_callXV (ci := 9) (b := a643) (As := [vI r638, vI (8 : Int32)]) (st := [vI r642]) (v := some (vI r647)) (M1 := M647) X2 (m_X11_fisher l hlx hH0 hq647) (cwV 2 X.2.2.1 gL_law_X11_fisher rfl rfl rfl (by decide +kernel) ⟨Nat.le_of_ble_eq_true rfl, Nat.le_of_ble_eq_true rfl⟩) rfl rfl ha643 hT648 (by decide) rfl (Nat.le_of_ble_eq_true rfl) dL_law_117 ⟨hg649.1, hg649.2⟩ ?_
      refine g_isub X dL_law_120 ?_
      refine g_istore (lv' := [(10, vI (r642 - r647)), (9, vI r638), (8, vI (r636 >>> (((x7 / (16 : Int32)) * (6 : Int32)) &&& 31))), (0, vR (some (Z 400))), (2, vR x2), (3, vR x3), (4, vI x4), (5, vI x5), (6, vI x6), (7, vI x7)]) X dL_law_121 (by decide) rfl ?_
      refine g_iload X dL_law_123 rfl ?_
      refine g_iconst (v := (5 : Int32)) X dL_law_125 (by decide) ?_
      refine g_ishr X dL_law_126 ?_
      refine g_iconst (v := (2 : Int32)) X dL_law_127 (by decide) ?_
      obtain ⟨hg652, hf⟩ := ck_e hf
      obtain ⟨r651, M651, hq651, hf⟩ := bd_e hf
      refine g_callS (As := [vI ((r636 >>> (((x7 / (16 : Int32)) * (6 : Int32)) &&& 31)) >>> ((5 : Int32) &&& 31)), vI (2 : Int32)]) (st := []) (v := some (vI r651)) (M1 := M651) X (m_L_below l hq651) (va_cwS 2 X.2.2.1 gL_law_L_below rfl rfl rfl (by decide +kernel) ⟨Nat.le_of_ble_eq_true rfl, Nat.le_of_ble_eq_true rfl⟩) rfl rfl (Nat.le_of_ble_eq_true rfl) dL_law_128 ⟨hg652.1, hg652.2⟩ ?_
      refine g_if_ne (tgt := 138) X dL_law_131 (by decide) (fun hc => ?_) (fun hc => ?_)
      · have hf := ife_f hc hf
        refine g_iconst (v := (0 : Int32)) X dL_law_138 (by decide) ?_
        refine g_sub (lvsub_of _ _ [3, 4, 5, 6, 7, 8, 9, 2, 1, 0] rfl) ?_
        exact t_L_law_139 X2 hr hlx hH hne hH0 _ _ _ _ _ _ _ _ _ _ _ _ _ _ hf hK
      · have hf := ife_t hc hf
        refine g_iconst (v := (1 : Int32)) X dL_law_134 (by decide) ?_
        refine g_goto (tgt := 139) X dL_law_135 (by decide) ?_
        refine g_sub (lvsub_of _ _ [3, 4, 5, 6, 7, 8, 9, 2, 1, 0] rfl) ?_
        exact t_L_law_139 X2 hr hlx hH hne hH0 _ _ _ _ _ _ _ _ _ _ _ _ _ _ hf hK
set_option maxHeartbeats 4000000 in
set_option maxRecDepth 100000 in
theorem tl_L_law_59 (X2 : gX p s m args meth c D cy B (gSt2 Z B H0) RL cL_law wsL_law 34) (hr : meth.sig.returnType = (some .boolean)) (hlx : l.stackTraces = false) (hH : ∀ q : Nat, q < B → s.heap[q]? = H0[q]?) (hne : ∀ x ∈ c.exceptionTable.toList, False) (hH0 : H0.size = B) {Q : State → Prop} : ∀ (M : gMem) (kc : Nat) (kn : Nat) (x2 : Option Nat) (x3 : Option Nat) (x4 : Int32) (x5 : Int32) (x6 : Int32) (x7 : Int32) (z : (Nat ⊕ Int32) × gMem), lp_L_law_59 Z M kc kn x2 x3 x4 x5 x6 x7 = some z → (fun (r : (Nat ⊕ Int32) × gMem) => Q = gMX below D cy B H0 args s 600086 7301442 (gzI r.1) r.2) z → gGo p l e rL_law s m args below meth c D cy B H0 34 kc kn Q 59 [(0, vR (some (Z 400))), (2, vR x2), (3, vR x3), (4, vI x4), (5, vI x5), (6, vI x6), (7, vI x7)] [] M := by
  intro M kc kn x2 x3 x4 x5 x6 x7 z hf hK
  refine lp_ind (P := (fun (q : gMem × Nat × Nat × Int32) (z : (Nat ⊕ Int32) × gMem) => (fun (r : (Nat ⊕ Int32) × gMem) => Q = gMX below D cy B H0 args s 600086 7301442 (gzI r.1) r.2) z → gGo p l e rL_law s m args below meth c D cy B H0 34 q.2.1 q.2.2.1 Q 59 [(0, vR (some (Z 400))), (2, vR x2), (3, vR x3), (4, vI x4), (5, vI x5), (6, vI x6), (7, vI q.2.2.2)] [] q.1)) (fun q z hq => ?_) _ _ hf hK
  intro hK
  obtain ⟨w, hw, hm⟩ := hq
  refine tb_L_law_59 X2 hr hlx hH hne hH0 _ _ _ _ _ _ _ _ _ w hw ?_
  cases w with
  | inl a => exact hm hK
  | inr b => cases hm; exact hK
set_option maxHeartbeats 4000000 in
set_option maxRecDepth 100000 in
theorem t_L_law_0 (X2 : gX p s m args meth c D cy B (gSt2 Z B H0) RL cL_law wsL_law 34) (hr : meth.sig.returnType = (some .boolean)) (hlx : l.stackTraces = false) (hH : ∀ q : Nat, q < B → s.heap[q]? = H0[q]?) (hne : ∀ x ∈ c.exceptionTable.toList, False) (hH0 : H0.size = B) {Q : State → Prop} : ∀ (M : gMem) (kc : Nat) (kn : Nat) (z : (Nat ⊕ Int32) × gMem), b_L_law_0 Z M kc kn = some z → (fun (r : (Nat ⊕ Int32) × gMem) => Q = gMX below D cy B H0 args s 600086 7301442 (gzI r.1) r.2) z → gGo p l e rL_law s m args below meth c D cy B H0 34 kc kn Q 0 [(0, vR (some (Z 400)))] [] M := by
  intro M kc kn z hf hK
  unfold b_L_law_0 at hf
  have X := gX_w X2
  obtain ⟨hg653, hf⟩ := ck_e hf
  refine g_new (ci := 12) X cdJ4 i_L_law_J4 k_L_law_cl32 k_L_law_inJ4 k_L_law_iiJ4 (by intro i hi; rcases (show i = 0 ∨ i = 1 ∨ i = 2 ∨ i = 3 by omega) with rfl | rfl | rfl | rfl <;> rfl) ⟨hg653.1, hg653.2⟩ dL_law_0 ?_
  obtain ⟨M654, hM654, hf⟩ := lw_e hf
  rw [← hM654]
  refine g_dup X dL_law_3 rfl ?_
  obtain ⟨hg656, hf⟩ := ck_e hf
  obtain ⟨r655, M655, hq655, hf⟩ := bd_e hf
  refine g_callI (b := (mN M)) (As := []) (st := [vR (some (mN M))]) (M1 := M655) X (m_J4_init_da8c8 l hq655) (cwI 0 X.2.2.1 gL_law_J4_init_da8c8 rfl rfl rfl (X.2.2.1 _ k_L_law_iiJ4) (X.2.2.1 _ k_L_law_ml34) (X.2.2.1 _ k_L_law_imJ4_init_da8c8) rfl (by decide +kernel) ⟨Nat.le_of_ble_eq_true rfl, Nat.le_of_ble_eq_true rfl⟩) rfl rfl rfl (Nat.le_of_ble_eq_true rfl) dL_law_4 ⟨hg656.1, hg656.2⟩ ?_
  refine g_astore_n (lv' := [(1, vR (some (mN M))), (0, vR (some (Z 400)))]) X dL_law_7 rfl (by decide) rfl ?_
  refine g_aload_n X dL_law_8 rfl rfl ?_
  refine g_aload_n X dL_law_9 rfl rfl ?_
  obtain ⟨hg658, hf⟩ := ck_e hf
  obtain ⟨r657, M657, hq657, hf⟩ := bd_e hf
  refine g_callS (As := [vR (some (Z 400)), vR (some (mN M))]) (st := []) (v := some (vR r657)) (M1 := M657) X2 (m_L_shore l hq657) (va_cwS 2 X.2.2.1 gL_law_L_shore rfl rfl rfl (by decide +kernel) ⟨Nat.le_of_ble_eq_true rfl, Nat.le_of_ble_eq_true rfl⟩) rfl rfl (Nat.le_of_ble_eq_true rfl) dL_law_10 ⟨hg658.1, hg658.2⟩ ?_
  refine g_astore_n (lv' := [(2, vR r657), (1, vR (some (mN M))), (0, vR (some (Z 400)))]) X dL_law_13 rfl (by decide) rfl ?_
  obtain ⟨hg659, hf⟩ := ck_e hf
  refine g_new (ci := 9) X cdX11 i_L_law_X11 k_L_law_cl10 k_L_law_inX11 k_L_law_iiX11 (by intro i hi; rcases (show i = 0 ∨ i = 1 ∨ i = 2 ∨ i = 3 by omega) with rfl | rfl | rfl | rfl <;> rfl) ⟨hg659.1, hg659.2⟩ dL_law_14 ?_
  obtain ⟨M660, hM660, hf⟩ := lw_e hf
  rw [← hM660]
  refine g_dup X dL_law_17 rfl ?_
  obtain ⟨hg662, hf⟩ := ck_e hf
  obtain ⟨r661, M661, hq661, hf⟩ := bd_e hf
  refine g_callI (b := (mN M657)) (As := []) (st := [vR (some (mN M657))]) (M1 := M661) X2 (m_X11_init l hq661) (cwI 0 X.2.2.1 gL_law_X11_init rfl rfl rfl (X.2.2.1 _ k_L_law_iiX11) (X.2.2.1 _ k_L_law_ml198) (X.2.2.1 _ k_L_law_imX11_init) rfl (by decide +kernel) ⟨Nat.le_of_ble_eq_true rfl, Nat.le_of_ble_eq_true rfl⟩) rfl rfl rfl (Nat.le_of_ble_eq_true rfl) dL_law_18 ⟨hg662.1, hg662.2⟩ ?_
  refine g_astore_n (lv' := [(3, vR (some (mN M657))), (2, vR r657), (1, vR (some (mN M))), (0, vR (some (Z 400)))]) X dL_law_21 rfl (by decide) rfl ?_
  refine g_aload_n X dL_law_22 rfl rfl ?_
  refine g_aload_n X dL_law_23 rfl rfl ?_
  obtain ⟨hT664, hf⟩ := ck_e hf
  obtain ⟨hg665, hf⟩ := ck_e hf
  obtain ⟨r663, M663, hq663, hf⟩ := bd_e hf
  refine g_callV (ci := 12) (b := (mN M)) (As := []) (st := [vR (some (mN M657))]) (v := some (vR r663)) (M1 := M663) X2 (m_J4_toString_0e30d l hq663) (cwV 0 X.2.2.1 gL_law_J4_toString_0e30d rfl rfl rfl (by decide +kernel) ⟨Nat.le_of_ble_eq_true rfl, Nat.le_of_ble_eq_true rfl⟩) rfl rfl rfl hT664 (by decide) rfl (Nat.le_of_ble_eq_true rfl) dL_law_24 ⟨hg665.1, hg665.2⟩ ?_
  obtain ⟨hg667, hf⟩ := ck_e hf
  rcases bx_e hf with ⟨e666, M666, hq666, hf⟩ | ⟨r666, M666, hq666, hf⟩
  · cases hf
    refine g_eqQ hK ?_
    exact g_callTS (As := [vR (some (mN M657)), vR r663]) (st := []) (M1 := M666) X2 hne (m_L_taught l hlx hH0 hq666) (va_cwS 2 X.2.2.1 gL_law_L_taught rfl rfl rfl (by decide +kernel) ⟨Nat.le_of_ble_eq_true rfl, Nat.le_of_ble_eq_true rfl⟩) rfl rfl (Nat.le_of_ble_eq_true rfl) dL_law_27 ⟨hg667.1, hg667.2⟩ hg667.1 hg667.2
  refine g_callXS (As := [vR (some (mN M657)), vR r663]) (st := []) (v := some (vI r666)) (M1 := M666) X2 (m_L_taught l hlx hH0 hq666) (va_cwS 2 X.2.2.1 gL_law_L_taught rfl rfl rfl (by decide +kernel) ⟨Nat.le_of_ble_eq_true rfl, Nat.le_of_ble_eq_true rfl⟩) rfl rfl (Nat.le_of_ble_eq_true rfl) dL_law_27 ⟨hg667.1, hg667.2⟩ ?_
  refine g_if_eq (tgt := 35) X dL_law_30 (by decide) (fun hc => ?_) (fun hc => ?_)
  · have hf := ife_t hc hf
    refine g_aload_n X dL_law_35 rfl rfl ?_
    refine g_iconst (v := (2 : Int32)) X dL_law_36 (by decide) ?_
    obtain ⟨hT669, hf⟩ := ck_e hf
    obtain ⟨hg670, hf⟩ := ck_e hf
    rcases bx_e hf with ⟨e668, M668, hq668, hf⟩ | ⟨r668, M668, hq668, hf⟩
    · cases hf
      refine g_eqQ hK ?_
      exact g_callTV (ci := 9) (b := (mN M657)) (As := [vI (2 : Int32)]) (st := []) (M1 := M668) X2 hne (m_X11_count l hlx hH0 hq668) (cwV 1 X.2.2.1 gL_law_X11_count rfl rfl rfl (by decide +kernel) ⟨Nat.le_of_ble_eq_true rfl, Nat.le_of_ble_eq_true rfl⟩) rfl rfl rfl hT669 (by decide) rfl (Nat.le_of_ble_eq_true rfl) dL_law_37 ⟨hg670.1, hg670.2⟩ hg670.1 hg670.2
    refine g_callXV (ci := 9) (b := (mN M657)) (As := [vI (2 : Int32)]) (st := []) (v := some (vI r668)) (M1 := M668) X2 (m_X11_count l hlx hH0 hq668) (cwV 1 X.2.2.1 gL_law_X11_count rfl rfl rfl (by decide +kernel) ⟨Nat.le_of_ble_eq_true rfl, Nat.le_of_ble_eq_true rfl⟩) rfl rfl rfl hT669 (by decide) rfl (Nat.le_of_ble_eq_true rfl) dL_law_37 ⟨hg670.1, hg670.2⟩ ?_
    refine g_istore (lv' := [(4, vI r668), (3, vR (some (mN M657))), (2, vR r657), (1, vR (some (mN M))), (0, vR (some (Z 400)))]) X dL_law_40 (by decide) rfl ?_
    refine g_aload_n X dL_law_42 rfl rfl ?_
    refine g_iconst (v := (1 : Int32)) X dL_law_43 (by decide) ?_
    obtain ⟨hT672, hf⟩ := ck_e hf
    obtain ⟨hg673, hf⟩ := ck_e hf
    rcases bx_e hf with ⟨e671, M671, hq671, hf⟩ | ⟨r671, M671, hq671, hf⟩
    · cases hf
      refine g_eqQ hK ?_
      exact g_callTV (ci := 9) (b := (mN M657)) (As := [vI (1 : Int32)]) (st := []) (M1 := M671) X2 hne (m_X11_count l hlx hH0 hq671) (cwV 1 X.2.2.1 gL_law_X11_count rfl rfl rfl (by decide +kernel) ⟨Nat.le_of_ble_eq_true rfl, Nat.le_of_ble_eq_true rfl⟩) rfl rfl rfl hT672 (by decide) rfl (Nat.le_of_ble_eq_true rfl) dL_law_44 ⟨hg673.1, hg673.2⟩ hg673.1 hg673.2
    refine g_callXV (ci := 9) (b := (mN M657)) (As := [vI (1 : Int32)]) (st := []) (v := some (vI r671)) (M1 := M671) X2 (m_X11_count l hlx hH0 hq671) (cwV 1 X.2.2.1 gL_law_X11_count rfl rfl rfl (by decide +kernel) ⟨Nat.le_of_ble_eq_true rfl, Nat.le_of_ble_eq_true rfl⟩) rfl rfl rfl hT672 (by decide) rfl (Nat.le_of_ble_eq_true rfl) dL_law_44 ⟨hg673.1, hg673.2⟩ ?_
    refine g_istore (lv' := [(5, vI r671), (4, vI r668), (3, vR (some (mN M657))), (2, vR r657), (1, vR (some (mN M))), (0, vR (some (Z 400)))]) X dL_law_47 (by decide) rfl ?_
    refine g_aload_n X dL_law_49 rfl rfl ?_
    refine g_iconst (v := (4 : Int32)) X dL_law_50 (by decide) ?_
    obtain ⟨hT675, hf⟩ := ck_e hf
    obtain ⟨hg676, hf⟩ := ck_e hf
    rcases bx_e hf with ⟨e674, M674, hq674, hf⟩ | ⟨r674, M674, hq674, hf⟩
    · cases hf
      refine g_eqQ hK ?_
      exact g_callTV (ci := 9) (b := (mN M657)) (As := [vI (4 : Int32)]) (st := []) (M1 := M674) X2 hne (m_X11_count l hlx hH0 hq674) (cwV 1 X.2.2.1 gL_law_X11_count rfl rfl rfl (by decide +kernel) ⟨Nat.le_of_ble_eq_true rfl, Nat.le_of_ble_eq_true rfl⟩) rfl rfl rfl hT675 (by decide) rfl (Nat.le_of_ble_eq_true rfl) dL_law_51 ⟨hg676.1, hg676.2⟩ hg676.1 hg676.2
    refine g_callXV (ci := 9) (b := (mN M657)) (As := [vI (4 : Int32)]) (st := []) (v := some (vI r674)) (M1 := M674) X2 (m_X11_count l hlx hH0 hq674) (cwV 1 X.2.2.1 gL_law_X11_count rfl rfl rfl (by decide +kernel) ⟨Nat.le_of_ble_eq_true rfl, Nat.le_of_ble_eq_true rfl⟩) rfl rfl rfl hT675 (by decide) rfl (Nat.le_of_ble_eq_true rfl) dL_law_51 ⟨hg676.1, hg676.2⟩ ?_
    refine g_istore (lv' := [(6, vI r674), (5, vI r671), (4, vI r668), (3, vR (some (mN M657))), (2, vR r657), (1, vR (some (mN M))), (0, vR (some (Z 400)))]) X dL_law_54 (by decide) rfl ?_
    refine g_iconst (v := (0 : Int32)) X dL_law_56 (by decide) ?_
    refine g_istore (lv' := [(7, vI (0 : Int32)), (6, vI r674), (5, vI r671), (4, vI r668), (3, vR (some (mN M657))), (2, vR r657), (1, vR (some (mN M))), (0, vR (some (Z 400)))]) X dL_law_57 (by decide) rfl ?_
    refine g_sub (lvsub_of _ _ [7, 5, 4, 3, 2, 1, 0] rfl) ?_
    exact tl_L_law_59 X2 hr hlx hH hne hH0 _ _ _ _ _ _ _ _ _ _ hf hK
  · have hf := ife_f hc hf
    refine g_iconst (v := (0 : Int32)) X dL_law_33 (by decide) ?_
    obtain ⟨hg677, hf⟩ := ck_e hf
    cases hf
    refine g_eqQ hK ?_
    refine g_wide (k' := 600086) (n' := 7301442) hg677.1 hg677.2 ?_
    refine g_xret ?_
    exact g_zret X hr (gnb (Or.inl rfl)) dL_law_34
end
