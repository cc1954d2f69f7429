section
variable {p : Program} {l : Launch} {e : Env} {s : State} {m : MethodId} {args : Array Value} {below : List Frame} {meth : Method} {c : Code} {D : va_G} {cy : Nat → ClassId} {B : Nat} {H0 : Heap} {Z : Nat → Nat}
/-! ## TideLots.checkGround(I)V -/
theorem kx_hxw96 : ∀ w ∈ (vx_atS RX11 96 "java/lang/IndexOutOfBoundsException" ["java/lang/RuntimeException", "java/lang/Exception"]).filter (fun w => !goodWord w), w ∈ gN2 ∧ w.onTables = true := sorry

theorem kx_hg96_92 : ∀ w ∈ Cond.classLink RX11 92 "java/lang/IndexOutOfBoundsException" :: Cond.initialized "java/lang/IndexOutOfBoundsException" :: (vx_atS RX11 96 "java/lang/IndexOutOfBoundsException" ["java/lang/RuntimeException", "java/lang/Exception"]), vx_ot w = true := sorry

theorem i_X11_checkGround_X11 : ∀ w ∈ u_ws RX11 TX11 4, w ∈ wsX11_checkGround := sorry

theorem i_X11_checkGround_X7 : ∀ w ∈ u_ws RX7 TX7 17, w ∈ wsX11_checkGround := sorry

abbrev rX11_checkGround : Room := { frames := 6, cells := 1, slots := 6, locals := 82 }
noncomputable def b_X11_checkGround_15 (M : gMem)  : Option ((Nat ⊕ Unit) × gMem) :=
  some (.inl 2, M)
noncomputable def b_X11_checkGround_0 (M : gMem) (x0 : Nat) (x1 : Int32) : Option ((Nat ⊕ Unit) × gMem) :=
  (if x1 < 0 then b_X11_checkGround_15 M  else ck (mT M x0 = 10) <| dr ((mR M x0 1)) fun a2 => ck (mT M a2 = 7) <| (if x1 < (mI M a2 2) then some (.inr (), M) else b_X11_checkGround_15 M ))
noncomputable def f_X11_checkGround (M : gMem) (x0 : Nat) (x1 : Int32) : Option ((Nat ⊕ Unit) × gMem) :=
  b_X11_checkGround_0 M x0 x1
set_option maxHeartbeats 4000000 in
set_option maxRecDepth 100000 in
theorem t_X11_checkGround_15 (X2 : gX p s m args meth c D cy B (gSt2 Z B H0) RX11 cX11_checkGround wsX11_checkGround 2) (hr : meth.sig.returnType = none) (hlx : l.stackTraces = false) (hH : ∀ q : Nat, q < B → s.heap[q]? = H0[q]?) (hne : ∀ x ∈ c.exceptionTable.toList, False) (hH0 : H0.size = B) {Q : State → Prop} : ∀ (M : gMem)  (z : (Nat ⊕ Unit) × gMem), b_X11_checkGround_15 M  = some z → (fun (r : (Nat ⊕ Unit) × gMem) => Q = gMX below D cy B H0 args s 1 6 (gzV r.1) r.2) z → gGo p l e rX11_checkGround s m args below meth c D cy B H0 2 0 0 Q 15 [] [] M := sorry

set_option maxHeartbeats 4000000 in
set_option maxRecDepth 100000 in
theorem t_X11_checkGround_0 (X2 : gX p s m args meth c D cy B (gSt2 Z B H0) RX11 cX11_checkGround wsX11_checkGround 2) (hr : meth.sig.returnType = none) (hlx : l.stackTraces = false) (hH : ∀ q : Nat, q < B → s.heap[q]? = H0[q]?) (hne : ∀ x ∈ c.exceptionTable.toList, False) (hH0 : H0.size = B) {Q : State → Prop} : ∀ (M : gMem) (x0 : Nat) (x1 : Int32) (z : (Nat ⊕ Unit) × gMem), b_X11_checkGround_0 M x0 x1 = some z → (fun (r : (Nat ⊕ Unit) × gMem) => Q = gMX below D cy B H0 args s 1 6 (gzV r.1) r.2) z → gGo p l e rX11_checkGround s m args below meth c D cy B H0 2 0 0 Q 0 [(0, vR (some x0)), (1, vI x1)] [] M := sorry

set_option maxHeartbeats 4000000 in
set_option maxRecDepth 100000 in
theorem m_X11_checkGround (l : Launch) (hlx : l.stackTraces = false) {D : va_G} {cy : Nat → ClassId} {B : Nat} {H0 : Heap} {Z : Nat → Nat} {M M1 : gMem} {x0 : Nat} {x1 : Int32} {r : (Nat ⊕ Unit)} (hH0 : H0.size = B) (hf : f_X11_checkGround M x0 x1 = some (r, M1)) : vx_Met l yX11_checkGround wsX11_checkGround rX11_checkGround (va_Pc (Value.ref x0 :: List.map gv [vI x1]) (gPre D cy B H0 (gSt2 Z B H0) M)) (gQX D cy B H0 (gzV r) M1) (gXC D cy B H0 (gzV r) M1) 1 6 (gA B) := sorry

/-! ## TideLots.checkFisher(I)V -/
theorem i_X11_checkFisher_X11 : ∀ w ∈ u_ws RX11 TX11 4, w ∈ wsX11_checkFisher := sorry

theorem i_X11_checkFisher_X7 : ∀ w ∈ u_ws RX7 TX7 17, w ∈ wsX11_checkFisher := sorry

abbrev rX11_checkFisher : Room := { frames := 6, cells := 1, slots := 6, locals := 82 }
noncomputable def b_X11_checkFisher_15 (M : gMem)  : Option ((Nat ⊕ Unit) × gMem) :=
  some (.inl 2, M)
noncomputable def b_X11_checkFisher_0 (M : gMem) (x0 : Nat) (x1 : Int32) : Option ((Nat ⊕ Unit) × gMem) :=
  (if x1 < 0 then b_X11_checkFisher_15 M  else ck (mT M x0 = 10) <| dr ((mR M x0 1)) fun a2 => ck (mT M a2 = 7) <| (if x1 < (mI M a2 3) then some (.inr (), M) else b_X11_checkFisher_15 M ))
noncomputable def f_X11_checkFisher (M : gMem) (x0 : Nat) (x1 : Int32) : Option ((Nat ⊕ Unit) × gMem) :=
  b_X11_checkFisher_0 M x0 x1
set_option maxHeartbeats 4000000 in
set_option maxRecDepth 100000 in
theorem t_X11_checkFisher_15 (X2 : gX p s m args meth c D cy B (gSt2 Z B H0) RX11 cX11_checkFisher wsX11_checkFisher 2) (hr : meth.sig.returnType = none) (hlx : l.stackTraces = false) (hH : ∀ q : Nat, q < B → s.heap[q]? = H0[q]?) (hne : ∀ x ∈ c.exceptionTable.toList, False) (hH0 : H0.size = B) {Q : State → Prop} : ∀ (M : gMem)  (z : (Nat ⊕ Unit) × gMem), b_X11_checkFisher_15 M  = some z → (fun (r : (Nat ⊕ Unit) × gMem) => Q = gMX below D cy B H0 args s 1 6 (gzV r.1) r.2) z → gGo p l e rX11_checkFisher s m args below meth c D cy B H0 2 0 0 Q 15 [] [] M := sorry

set_option maxHeartbeats 4000000 in
set_option maxRecDepth 100000 in
theorem t_X11_checkFisher_0 (X2 : gX p s m args meth c D cy B (gSt2 Z B H0) RX11 cX11_checkFisher wsX11_checkFisher 2) (hr : meth.sig.returnType = none) (hlx : l.stackTraces = false) (hH : ∀ q : Nat, q < B → s.heap[q]? = H0[q]?) (hne : ∀ x ∈ c.exceptionTable.toList, False) (hH0 : H0.size = B) {Q : State → Prop} : ∀ (M : gMem) (x0 : Nat) (x1 : Int32) (z : (Nat ⊕ Unit) × gMem), b_X11_checkFisher_0 M x0 x1 = some z → (fun (r : (Nat ⊕ Unit) × gMem) => Q = gMX below D cy B H0 args s 1 6 (gzV r.1) r.2) z → gGo p l e rX11_checkFisher s m args below meth c D cy B H0 2 0 0 Q 0 [(0, vR (some x0)), (1, vI x1)] [] M := sorry

set_option maxHeartbeats 4000000 in
set_option maxRecDepth 100000 in
theorem m_X11_checkFisher (l : Launch) (hlx : l.stackTraces = false) {D : va_G} {cy : Nat → ClassId} {B : Nat} {H0 : Heap} {Z : Nat → Nat} {M M1 : gMem} {x0 : Nat} {x1 : Int32} {r : (Nat ⊕ Unit)} (hH0 : H0.size = B) (hf : f_X11_checkFisher M x0 x1 = some (r, M1)) : vx_Met l yX11_checkFisher wsX11_checkFisher rX11_checkFisher (va_Pc (Value.ref x0 :: List.map gv [vI x1]) (gPre D cy B H0 (gSt2 Z B H0) M)) (gQX D cy B H0 (gzV r) M1) (gXC D cy B H0 (gzV r) M1) 1 6 (gA B) := sorry

/-! ## TideLots.checkTides(II)V -/
theorem kx_hxw48 : ∀ w ∈ (vx_atS RX11 48 "java/lang/IllegalArgumentException" ["java/lang/RuntimeException", "java/lang/Exception"]).filter (fun w => !goodWord w), w ∈ gN2 ∧ w.onTables = true := sorry

theorem kx_hg48_44 : ∀ w ∈ Cond.classLink RX11 44 "java/lang/IllegalArgumentException" :: Cond.initialized "java/lang/IllegalArgumentException" :: (vx_atS RX11 48 "java/lang/IllegalArgumentException" ["java/lang/RuntimeException", "java/lang/Exception"]), vx_ot w = true := sorry

abbrev rX11_checkTides : Room := { frames := 6, cells := 1, slots := 6, locals := 82 }
noncomputable def b_X11_checkTides_10 (M : gMem)  : Option ((Nat ⊕ Unit) × gMem) :=
  some (.inl 1, M)
noncomputable def b_X11_checkTides_0 (M : gMem) (x0 : Int32) (x1 : Int32) : Option ((Nat ⊕ Unit) × gMem) :=
  (if x0 < (1 : Int32) then b_X11_checkTides_10 M  else (if x0 ≤ x1 then some (.inr (), M) else b_X11_checkTides_10 M ))
noncomputable def f_X11_checkTides (M : gMem) (x0 : Int32) (x1 : Int32) : Option ((Nat ⊕ Unit) × gMem) :=
  b_X11_checkTides_0 M x0 x1
set_option maxHeartbeats 4000000 in
set_option maxRecDepth 100000 in
theorem t_X11_checkTides_10 (X2 : gX p s m args meth c D cy B (gSt2 Z B H0) RX11 cX11_checkTides wsX11_checkTides 2) (hr : meth.sig.returnType = none) (hlx : l.stackTraces = false) (hH : ∀ q : Nat, q < B → s.heap[q]? = H0[q]?) (hne : ∀ x ∈ c.exceptionTable.toList, False) (hH0 : H0.size = B) {Q : State → Prop} : ∀ (M : gMem)  (z : (Nat ⊕ Unit) × gMem), b_X11_checkTides_10 M  = some z → (fun (r : (Nat ⊕ Unit) × gMem) => Q = gMX below D cy B H0 args s 1 6 (gzV r.1) r.2) z → gGo p l e rX11_checkTides s m args below meth c D cy B H0 2 0 0 Q 10 [] [] M := sorry

set_option maxHeartbeats 4000000 in
set_option maxRecDepth 100000 in
theorem t_X11_checkTides_0 (X2 : gX p s m args meth c D cy B (gSt2 Z B H0) RX11 cX11_checkTides wsX11_checkTides 2) (hr : meth.sig.returnType = none) (hlx : l.stackTraces = false) (hH : ∀ q : Nat, q < B → s.heap[q]? = H0[q]?) (hne : ∀ x ∈ c.exceptionTable.toList, False) (hH0 : H0.size = B) {Q : State → Prop} : ∀ (M : gMem) (x0 : Int32) (x1 : Int32) (z : (Nat ⊕ Unit) × gMem), b_X11_checkTides_0 M x0 x1 = some z → (fun (r : (Nat ⊕ Unit) × gMem) => Q = gMX below D cy B H0 args s 1 6 (gzV r.1) r.2) z → gGo p l e rX11_checkTides s m args below meth c D cy B H0 2 0 0 Q 0 [(0, vI x0), (1, vI x1)] [] M := sorry

set_option maxHeartbeats 4000000 in
set_option maxRecDepth 100000 in
theorem m_X11_checkTides (l : Launch) (hlx : l.stackTraces = false) {D : va_G} {cy : Nat → ClassId} {B : Nat} {H0 : Heap} {Z : Nat → Nat} {M M1 : gMem} {x0 : Int32} {x1 : Int32} {r : (Nat ⊕ Unit)} (hH0 : H0.size = B) (hf : f_X11_checkTides M x0 x1 = some (r, M1)) : vx_Met l yX11_checkTides wsX11_checkTides rX11_checkTides (va_Pc (List.map gv [vI x0, vI x1]) (gPre D cy B H0 (gSt2 Z B H0) M)) (gQX D cy B H0 (gzV r) M1) (gXC D cy B H0 (gzV r) M1) 1 6 (gA B) := sorry

/-! ## TideLots.lookAhead()LTideLots$Shore; -/
set_option maxRecDepth 20000 in
set_option maxRecDepth 20000 in
theorem gX11_lookAhead_X7_copyFrom : GoodIn wsX11_lookAhead (wsV RX11 241 RX7 yX7_copyFrom wsX7_copyFrom) := sorry

theorem i_X11_lookAhead_X11 : ∀ w ∈ u_ws RX11 TX11 4, w ∈ wsX11_lookAhead := sorry

abbrev rX11_lookAhead : Room := { frames := 2, cells := 0, slots := 0, locals := 44 }
noncomputable def b_X11_lookAhead_0 (Z : Nat → Nat) (M : gMem) (x0 : Nat) : Option (Option Nat × gMem) :=
  ck (mT M x0 = 10) <| dr ((mR M x0 2)) fun a3 => ck (mT M a3 = 7) <| bd (f_X7_copyFrom Z M a3 ((mR M x0 1))) fun _ M2 => ck (mT M2 x0 = 10) <| some ((mR M2 x0 2), M2)
noncomputable def f_X11_lookAhead (Z : Nat → Nat) (M : gMem) (x0 : Nat) : Option (Option Nat × gMem) :=
  b_X11_lookAhead_0 Z M x0
set_option maxHeartbeats 4000000 in
set_option maxRecDepth 100000 in
theorem t_X11_lookAhead_0 (X : gX p s m args meth c D cy B (gSt Z B H0) RX11 cX11_lookAhead wsX11_lookAhead 1) (hr : meth.sig.returnType = (some (.object "TideLots$Shore"))) {Q : State → Prop} : ∀ (M : gMem) (x0 : Nat) (z : Option Nat × gMem), b_X11_lookAhead_0 Z M x0 = some z → (fun (r : Option Nat × gMem) => Q = gMQ below D cy B H0 args s 0 0 (some (vR r.1)) r.2) z → gGo p l e rX11_lookAhead s m args below meth c D cy B H0 1 0 0 Q 0 [(0, vR (some x0))] [] M := sorry

set_option maxHeartbeats 4000000 in
set_option maxRecDepth 100000 in
theorem m_X11_lookAhead (l : Launch) {D : va_G} {cy : Nat → ClassId} {B : Nat} {H0 : Heap} {Z : Nat → Nat} {M M1 : gMem} {x0 : Nat} {r : Option Nat} (hf : f_X11_lookAhead Z M x0 = some (r, M1)) : Met l yX11_lookAhead wsX11_lookAhead rX11_lookAhead (va_Pc (Value.ref x0 :: List.map gv []) (gPre D cy B H0 (gSt Z B H0) M)) (gQ D cy B H0 (some (vR r)) M1) 0 0 (gA B) := sorry

/-! ## TideLots.gap()I -/
set_option maxRecDepth 20000 in
set_option maxRecDepth 20000 in
theorem gX11_gap_X7_storeGap : GoodIn wsX11_gap (wsV RX11 206 RX7 yX7_storeGap wsX7_storeGap) := sorry

theorem i_X11_gap_X11 : ∀ w ∈ u_ws RX11 TX11 4, w ∈ wsX11_gap := sorry

abbrev rX11_gap : Room := { frames := 2, cells := 0, slots := 0, locals := 36 }
noncomputable def b_X11_gap_0 (M : gMem) (x0 : Nat) : Option (Int32 × gMem) :=
  ck (mT M x0 = 10) <| dr ((mR M x0 1)) fun a3 => ck (mT M a3 = 7) <| bd (f_X7_storeGap M a3) fun r2 M2 => some (r2, M2)
noncomputable def f_X11_gap (M : gMem) (x0 : Nat) : Option (Int32 × gMem) :=
  b_X11_gap_0 M x0
set_option maxHeartbeats 4000000 in
set_option maxRecDepth 100000 in
theorem t_X11_gap_0 (X : gX p s m args meth c D cy B (gSt Z B H0) RX11 cX11_gap wsX11_gap 1) (hr : meth.sig.returnType = (some .int)) {Q : State → Prop} : ∀ (M : gMem) (x0 : Nat) (z : Int32 × gMem), b_X11_gap_0 M x0 = some z → (fun (r : Int32 × gMem) => Q = gMQ below D cy B H0 args s 0 0 (some (vI r.1)) r.2) z → gGo p l e rX11_gap s m args below meth c D cy B H0 1 0 0 Q 0 [(0, vR (some x0))] [] M := sorry

set_option maxHeartbeats 4000000 in
set_option maxRecDepth 100000 in
theorem m_X11_gap (l : Launch) {D : va_G} {cy : Nat → ClassId} {B : Nat} {H0 : Heap} {Z : Nat → Nat} {M M1 : gMem} {x0 : Nat} {r : Int32} (hf : f_X11_gap M x0 = some (r, M1)) : Met l yX11_gap wsX11_gap rX11_gap (va_Pc (Value.ref x0 :: List.map gv []) (gPre D cy B H0 (gSt Z B H0) M)) (gQ D cy B H0 (some (vI r)) M1) 0 0 (gA B) := sorry

/-! ## TideLots.feed(IIIII)I -/
set_option maxRecDepth 20000 in
set_option maxRecDepth 20000 in
theorem gX11_feed_X10_append : GoodIn wsX11_feed (wsV RX11 40 RX10 yX10_append wsX10_append) := sorry

theorem i_X11_feed_X11 : ∀ w ∈ u_ws RX11 TX11 4, w ∈ wsX11_feed := sorry

theorem i_X11_feed_X10 : ∀ w ∈ u_ws RX10 TX10 6, w ∈ wsX11_feed := sorry

theorem kx_hxw37 : ∀ w ∈ (vx_atS RX11 37 "java/lang/IllegalStateException" ["java/lang/RuntimeException", "java/lang/Exception"]).filter (fun w => !goodWord w), w ∈ gN2 ∧ w.onTables = true := sorry

theorem kx_hg37_33 : ∀ w ∈ Cond.classLink RX11 33 "java/lang/IllegalStateException" :: Cond.initialized "java/lang/IllegalStateException" :: (vx_atS RX11 37 "java/lang/IllegalStateException" ["java/lang/RuntimeException", "java/lang/Exception"]), vx_ot w = true := sorry

abbrev rX11_feed : Room := { frames := 6, cells := 1, slots := 6, locals := 82 }
noncomputable def b_X11_feed_0 (M : gMem) (x0 : Nat) (x1 : Int32) (x2 : Int32) (x3 : Int32) (x4 : Int32) (x5 : Int32) : Option ((Nat ⊕ Int32) × gMem) :=
  ck (mT M x0 = 10) <| dr ((mR M x0 0)) fun a2 => ck (mT M a2 = 9) <| (if ((mI M a2 0) + (20 : Int32)) ≤ (2000 : Int32) then bd (f_X10_append M a2 x1) fun _ M4 => ck (mT M4 x0 = 10) <| dr ((mR M4 x0 0)) fun a7 => ck (mT M4 a7 = 9) <| bd (f_X10_append M4 a7 x2) fun _ M6 => ck (mT M6 x0 = 10) <| dr ((mR M6 x0 0)) fun a11 => ck (mT M6 a11 = 9) <| bd (f_X10_append M6 a11 x3) fun _ M10 => ck (mT M10 x0 = 10) <| dr ((mR M10 x0 0)) fun a15 => ck (mT M10 a15 = 9) <| bd (f_X10_append M10 a15 x4) fun _ M14 => ck (mT M14 x0 = 10) <| dr ((mR M14 x0 0)) fun a19 => ck (mT M14 a19 = 9) <| bd (f_X10_append M14 a19 x5) fun _ M18 => ck (mT M18 x0 = 10) <| dr ((mR M18 x0 0)) fun a22 => ck (mT M18 a22 = 9) <| some (.inr (mI M18 a22 0), M18) else some (.inl 0, M))
noncomputable def f_X11_feed (M : gMem) (x0 : Nat) (x1 : Int32) (x2 : Int32) (x3 : Int32) (x4 : Int32) (x5 : Int32) : Option ((Nat ⊕ Int32) × gMem) :=
  b_X11_feed_0 M x0 x1 x2 x3 x4 x5
set_option maxHeartbeats 4000000 in
set_option maxRecDepth 100000 in
theorem t_X11_feed_0 (X2 : gX p s m args meth c D cy B (gSt2 Z B H0) RX11 cX11_feed wsX11_feed 6) (hr : meth.sig.returnType = (some .int)) (hlx : l.stackTraces = false) (hH : ∀ q : Nat, q < B → s.heap[q]? = H0[q]?) (hne : ∀ x ∈ c.exceptionTable.toList, False) (hH0 : H0.size = B) {Q : State → Prop} : ∀ (M : gMem) (x0 : Nat) (x1 : Int32) (x2 : Int32) (x3 : Int32) (x4 : Int32) (x5 : Int32) (z : (Nat ⊕ Int32) × gMem), b_X11_feed_0 M x0 x1 x2 x3 x4 x5 = some z → (fun (r : (Nat ⊕ Int32) × gMem) => Q = gMX below D cy B H0 args s 1 6 (gzI r.1) r.2) z → gGo p l e rX11_feed s m args below meth c D cy B H0 6 0 0 Q 0 [(0, vR (some x0)), (1, vI x1), (2, vI x2), (3, vI x3), (4, vI x4), (5, vI x5)] [] M := sorry

set_option maxHeartbeats 4000000 in
set_option maxRecDepth 100000 in
theorem m_X11_feed (l : Launch) (hlx : l.stackTraces = false) {D : va_G} {cy : Nat → ClassId} {B : Nat} {H0 : Heap} {Z : Nat → Nat} {M M1 : gMem} {x0 : Nat} {x1 : Int32} {x2 : Int32} {x3 : Int32} {x4 : Int32} {x5 : Int32} {r : (Nat ⊕ Int32)} (hH0 : H0.size = B) (hf : f_X11_feed M x0 x1 x2 x3 x4 x5 = some (r, M1)) : vx_Met l yX11_feed wsX11_feed rX11_feed (va_Pc (Value.ref x0 :: List.map gv [vI x1, vI x2, vI x3, vI x4, vI x5]) (gPre D cy B H0 (gSt2 Z B H0) M)) (gQX D cy B H0 (gzI r) M1) (gXC D cy B H0 (gzI r) M1) 1 6 (gA B) := sorry

/-! ## TideLots.trim(I)I -/
theorem i_X11_trim_X11 : ∀ w ∈ u_ws RX11 TX11 4, w ∈ wsX11_trim := sorry

theorem i_X11_trim_X10 : ∀ w ∈ u_ws RX10 TX10 6, w ∈ wsX11_trim := sorry

abbrev rX11_trim : Room := { frames := 6, cells := 1, slots := 6, locals := 82 }
noncomputable def b_X11_trim_15 (M : gMem)  : Option ((Nat ⊕ Int32) × gMem) :=
  some (.inl 1, M)
noncomputable def b_X11_trim_0 (M : gMem) (x0 : Nat) (x1 : Int32) : Option ((Nat ⊕ Int32) × gMem) :=
  (if x1 < 0 then b_X11_trim_15 M  else ck (mT M x0 = 10) <| dr ((mR M x0 0)) fun a2 => ck (mT M a2 = 9) <| (if x1 ≤ (mI M a2 0) then lw (wI M a2 0 x1) fun M4 => some (.inr x1, M4) else b_X11_trim_15 M ))
noncomputable def f_X11_trim (M : gMem) (x0 : Nat) (x1 : Int32) : Option ((Nat ⊕ Int32) × gMem) :=
  b_X11_trim_0 M x0 x1
set_option maxHeartbeats 4000000 in
set_option maxRecDepth 100000 in
theorem t_X11_trim_15 (X2 : gX p s m args meth c D cy B (gSt2 Z B H0) RX11 cX11_trim wsX11_trim 2) (hr : meth.sig.returnType = (some .int)) (hlx : l.stackTraces = false) (hH : ∀ q : Nat, q < B → s.heap[q]? = H0[q]?) (hne : ∀ x ∈ c.exceptionTable.toList, False) (hH0 : H0.size = B) {Q : State → Prop} : ∀ (M : gMem)  (z : (Nat ⊕ Int32) × gMem), b_X11_trim_15 M  = some z → (fun (r : (Nat ⊕ Int32) × gMem) => Q = gMX below D cy B H0 args s 1 6 (gzI r.1) r.2) z → gGo p l e rX11_trim s m args below meth c D cy B H0 2 0 0 Q 15 [] [] M := sorry

set_option maxHeartbeats 4000000 in
set_option maxRecDepth 100000 in
theorem t_X11_trim_0 (X2 : gX p s m args meth c D cy B (gSt2 Z B H0) RX11 cX11_trim wsX11_trim 2) (hr : meth.sig.returnType = (some .int)) (hlx : l.stackTraces = false) (hH : ∀ q : Nat, q < B → s.heap[q]? = H0[q]?) (hne : ∀ x ∈ c.exceptionTable.toList, False) (hH0 : H0.size = B) {Q : State → Prop} : ∀ (M : gMem) (x0 : Nat) (x1 : Int32) (z : (Nat ⊕ Int32) × gMem), b_X11_trim_0 M x0 x1 = some z → (fun (r : (Nat ⊕ Int32) × gMem) => Q = gMX below D cy B H0 args s 1 6 (gzI r.1) r.2) z → gGo p l e rX11_trim s m args below meth c D cy B H0 2 0 0 Q 0 [(0, vR (some x0)), (1, vI x1)] [] M := sorry

set_option maxHeartbeats 4000000 in
set_option maxRecDepth 100000 in
theorem m_X11_trim (l : Launch) (hlx : l.stackTraces = false) {D : va_G} {cy : Nat → ClassId} {B : Nat} {H0 : Heap} {Z : Nat → Nat} {M M1 : gMem} {x0 : Nat} {x1 : Int32} {r : (Nat ⊕ Int32)} (hH0 : H0.size = B) (hf : f_X11_trim M x0 x1 = some (r, M1)) : vx_Met l yX11_trim wsX11_trim rX11_trim (va_Pc (Value.ref x0 :: List.map gv [vI x1]) (gPre D cy B H0 (gSt2 Z B H0) M)) (gQX D cy B H0 (gzI r) M1) (gXC D cy B H0 (gzI r) M1) 1 6 (gA B) := sorry

/-! ## TideLots.count(I)I -/
set_option maxRecDepth 20000 in
set_option maxRecDepth 20000 in
theorem gX11_count_X7_allFish : GoodIn wsX11_count (wsV RX11 80 RX7 yX7_allFish wsX7_allFish) := sorry

set_option maxRecDepth 20000 in
set_option maxRecDepth 20000 in
theorem gX11_count_X7_allStores : GoodIn wsX11_count (wsV RX11 83 RX7 yX7_allStores wsX7_allStores) := sorry

set_option maxRecDepth 20000 in
set_option maxRecDepth 20000 in
theorem gX11_count_X7_widenedNets : GoodIn wsX11_count (wsV RX11 86 RX7 yX7_widenedNets wsX7_widenedNets) := sorry

set_option maxRecDepth 20000 in
set_option maxRecDepth 20000 in
theorem gX11_count_X7_allCheats : GoodIn wsX11_count (wsV RX11 89 RX7 yX7_allCheats wsX7_allCheats) := sorry

theorem i_X11_count_X11 : ∀ w ∈ u_ws RX11 TX11 4, w ∈ wsX11_count := sorry

theorem i_X11_count_X7 : ∀ w ∈ u_ws RX7 TX7 17, w ∈ wsX11_count := sorry

theorem i_X11_count_X10 : ∀ w ∈ u_ws RX10 TX10 6, w ∈ wsX11_count := sorry

abbrev rX11_count : Room := { frames := 6, cells := 1, slots := 6, locals := 82 }
noncomputable def b_X11_count_0 (M : gMem) (x0 : Nat) (x1 : Int32) : Option ((Nat ⊕ Int32) × gMem) :=
  (if x1 = (0 : Int32) then ck (mT M x0 = 10) <| dr ((mR M x0 1)) fun a3 => ck (mT M a3 = 7) <| some (.inr (mI M a3 0), M) else (if x1 = (1 : Int32) then ck (mT M x0 = 10) <| dr ((mR M x0 1)) fun a7 => ck (mT M a7 = 7) <| some (.inr (mI M a7 2), M) else (if x1 = (2 : Int32) then ck (mT M x0 = 10) <| dr ((mR M x0 1)) fun a11 => ck (mT M a11 = 7) <| some (.inr (mI M a11 3), M) else (if x1 = (3 : Int32) then ck (mT M x0 = 10) <| dr ((mR M x0 1)) fun a15 => ck (mT M a15 = 7) <| some (.inr (mI M a15 4), M) else (if x1 = (4 : Int32) then ck (mT M x0 = 10) <| dr ((mR M x0 1)) fun a19 => ck (mT M a19 = 7) <| some (.inr (mI M a19 5), M) else (if x1 = (5 : Int32) then ck (mT M x0 = 10) <| dr ((mR M x0 1)) fun a24 => ck (mT M a24 = 7) <| bd (f_X7_allFish M a24) fun r23 M23 => some (.inr r23, M23) else (if x1 = (6 : Int32) then ck (mT M x0 = 10) <| dr ((mR M x0 1)) fun a29 => ck (mT M a29 = 7) <| bd (f_X7_allStores M a29) fun r28 M28 => some (.inr r28, M28) else (if x1 = (7 : Int32) then ck (mT M x0 = 10) <| dr ((mR M x0 1)) fun a34 => ck (mT M a34 = 7) <| bd (f_X7_widenedNets M a34) fun r33 M33 => some (.inr r33, M33) else (if x1 = (8 : Int32) then ck (mT M x0 = 10) <| dr ((mR M x0 1)) fun a39 => ck (mT M a39 = 7) <| bd (f_X7_allCheats M a39) fun r38 M38 => some (.inr r38, M38) else (if x1 = (9 : Int32) then ck (mT M x0 = 10) <| dr ((mR M x0 0)) fun a43 => ck (mT M a43 = 9) <| some (.inr (mI M a43 0), M) else some (.inl 2, M)))))))))))
noncomputable def f_X11_count (M : gMem) (x0 : Nat) (x1 : Int32) : Option ((Nat ⊕ Int32) × gMem) :=
  b_X11_count_0 M x0 x1
set_option maxHeartbeats 4000000 in
set_option maxRecDepth 100000 in
theorem t_X11_count_0 (X2 : gX p s m args meth c D cy B (gSt2 Z B H0) RX11 cX11_count wsX11_count 2) (hr : meth.sig.returnType = (some .int)) (hlx : l.stackTraces = false) (hH : ∀ q : Nat, q < B → s.heap[q]? = H0[q]?) (hne : ∀ x ∈ c.exceptionTable.toList, False) (hH0 : H0.size = B) {Q : State → Prop} : ∀ (M : gMem) (x0 : Nat) (x1 : Int32) (z : (Nat ⊕ Int32) × gMem), b_X11_count_0 M x0 x1 = some z → (fun (r : (Nat ⊕ Int32) × gMem) => Q = gMX below D cy B H0 args s 1 6 (gzI r.1) r.2) z → gGo p l e rX11_count s m args below meth c D cy B H0 2 0 0 Q 0 [(0, vR (some x0)), (1, vI x1)] [] M := sorry

set_option maxHeartbeats 4000000 in
set_option maxRecDepth 100000 in
theorem m_X11_count (l : Launch) (hlx : l.stackTraces = false) {D : va_G} {cy : Nat → ClassId} {B : Nat} {H0 : Heap} {Z : Nat → Nat} {M M1 : gMem} {x0 : Nat} {x1 : Int32} {r : (Nat ⊕ Int32)} (hH0 : H0.size = B) (hf : f_X11_count M x0 x1 = some (r, M1)) : vx_Met l yX11_count wsX11_count rX11_count (va_Pc (Value.ref x0 :: List.map gv [vI x1]) (gPre D cy B H0 (gSt2 Z B H0) M)) (gQX D cy B H0 (gzI r) M1) (gXC D cy B H0 (gzI r) M1) 1 6 (gA B) := sorry

/-! ## TideLots.ground(II)I -/
set_option maxRecDepth 20000 in
set_option maxRecDepth 20000 in
theorem gX11_ground_X11_checkGround : GoodIn wsX11_ground (wsV RX11 97 RX11 yX11_checkGround wsX11_checkGround) := sorry

set_option maxRecDepth 20000 in
set_option maxRecDepth 20000 in
theorem gX11_ground_X3_allFish : GoodIn wsX11_ground (wsV RX11 104 RX3 yX3_allFish wsX3_allFish) := sorry

theorem i_X11_ground_X3 : ∀ w ∈ u_ws RX3 TX3 4, w ∈ wsX11_ground := sorry

theorem i_X11_ground_X11 : ∀ w ∈ u_ws RX11 TX11 4, w ∈ wsX11_ground := sorry

theorem i_X11_ground_X7 : ∀ w ∈ u_ws RX7 TX7 17, w ∈ wsX11_ground := sorry

abbrev rX11_ground : Room := { frames := 7, cells := 2, slots := 12, locals := 103 }
noncomputable def b_X11_ground_73 (M : gMem) (x2 : Int32) (x3 : Option Nat) : Option ((Nat ⊕ Int32) × gMem) :=
  dr x3 fun a1 => ck (mT M a1 = 3) <| dr ((mR M a1 3)) fun a3 => ck (mT M a3 = 20) <| ck (inb x2 (mL M a3)) <| some (.inr (mI M a3 x2.toNatClampNeg), M)
noncomputable def b_X11_ground_0 (M : gMem) (x0 : Nat) (x1 : Int32) (x2 : Int32) : Option ((Nat ⊕ Int32) × gMem) :=
  ck (mT M x0 = 10) <| bx (f_X11_checkGround M x0 x1) (fun e6 M6 => some (.inl e6, M6)) fun _ M6 => ck (mT M6 x0 = 10) <| dr ((mR M6 x0 1)) fun a9 => ck (mT M6 a9 = 7) <| dr ((mR M6 a9 6)) fun a11 => ck (mT M6 a11 = 23) <| ck (inb x1 (mL M6 a11)) <| (if x2 = (0 : Int32) then dr ((mR M6 a11 x1.toNatClampNeg)) fun a16 => ck (mT M6 a16 = 3) <| bd (f_X3_allFish M6 a16) fun r15 M15 => some (.inr r15, M15) else (if x2 = (1 : Int32) then b_X11_ground_73 M6 x2 ((mR M6 a11 x1.toNatClampNeg)) else (if x2 = (2 : Int32) then b_X11_ground_73 M6 x2 ((mR M6 a11 x1.toNatClampNeg)) else (if x2 = (3 : Int32) then b_X11_ground_73 M6 x2 ((mR M6 a11 x1.toNatClampNeg)) else (if x2 = (4 : Int32) then b_X11_ground_73 M6 x2 ((mR M6 a11 x1.toNatClampNeg)) else (if x2 = (5 : Int32) then b_X11_ground_73 M6 x2 ((mR M6 a11 x1.toNatClampNeg)) else (if x2 = (6 : Int32) then dr ((mR M6 a11 x1.toNatClampNeg)) fun a24 => ck (mT M6 a24 = 3) <| some (.inr (mI M6 a24 0), M6) else (if x2 = (7 : Int32) then dr ((mR M6 a11 x1.toNatClampNeg)) fun a27 => ck (mT M6 a27 = 3) <| some (.inr (mI M6 a27 1), M6) else (if x2 = (8 : Int32) then dr ((mR M6 a11 x1.toNatClampNeg)) fun a30 => ck (mT M6 a30 = 3) <| some (.inr (mI M6 a30 2), M6) else some (.inl 2, M6))))))))))
noncomputable def f_X11_ground (M : gMem) (x0 : Nat) (x1 : Int32) (x2 : Int32) : Option ((Nat ⊕ Int32) × gMem) :=
  b_X11_ground_0 M x0 x1 x2
set_option maxHeartbeats 4000000 in
set_option maxRecDepth 100000 in
theorem t_X11_ground_73 (X2 : gX p s m args meth c D cy B (gSt2 Z B H0) RX11 cX11_ground wsX11_ground 4) (hr : meth.sig.returnType = (some .int)) (hlx : l.stackTraces = false) (hH : ∀ q : Nat, q < B → s.heap[q]? = H0[q]?) (hne : ∀ x ∈ c.exceptionTable.toList, False) (hH0 : H0.size = B) {Q : State → Prop} : ∀ (M : gMem) (x2 : Int32) (x3 : Option Nat) (z : (Nat ⊕ Int32) × gMem), b_X11_ground_73 M x2 x3 = some z → (fun (r : (Nat ⊕ Int32) × gMem) => Q = gMX below D cy B H0 args s 2 12 (gzI r.1) r.2) z → gGo p l e rX11_ground s m args below meth c D cy B H0 4 1 6 Q 73 [(2, vI x2), (3, vR x3)] [] M := sorry

set_option maxHeartbeats 4000000 in
set_option maxRecDepth 100000 in
theorem t_X11_ground_0 (X2 : gX p s m args meth c D cy B (gSt2 Z B H0) RX11 cX11_ground wsX11_ground 4) (hr : meth.sig.returnType = (some .int)) (hlx : l.stackTraces = false) (hH : ∀ q : Nat, q < B → s.heap[q]? = H0[q]?) (hne : ∀ x ∈ c.exceptionTable.toList, False) (hH0 : H0.size = B) {Q : State → Prop} : ∀ (M : gMem) (x0 : Nat) (x1 : Int32) (x2 : Int32) (z : (Nat ⊕ Int32) × gMem), b_X11_ground_0 M x0 x1 x2 = some z → (fun (r : (Nat ⊕ Int32) × gMem) => Q = gMX below D cy B H0 args s 2 12 (gzI r.1) r.2) z → gGo p l e rX11_ground s m args below meth c D cy B H0 4 0 0 Q 0 [(0, vR (some x0)), (1, vI x1), (2, vI x2)] [] M := sorry

set_option maxHeartbeats 4000000 in
set_option maxRecDepth 100000 in
theorem m_X11_ground (l : Launch) (hlx : l.stackTraces = false) {D : va_G} {cy : Nat → ClassId} {B : Nat} {H0 : Heap} {Z : Nat → Nat} {M M1 : gMem} {x0 : Nat} {x1 : Int32} {x2 : Int32} {r : (Nat ⊕ Int32)} (hH0 : H0.size = B) (hf : f_X11_ground M x0 x1 x2 = some (r, M1)) : vx_Met l yX11_ground wsX11_ground rX11_ground (va_Pc (Value.ref x0 :: List.map gv [vI x1, vI x2]) (gPre D cy B H0 (gSt2 Z B H0) M)) (gQX D cy B H0 (gzI r) M1) (gXC D cy B H0 (gzI r) M1) 2 12 (gA B) := sorry

/-! ## TideLots.fisher(II)I -/
set_option maxRecDepth 20000 in
set_option maxRecDepth 20000 in
theorem gX11_fisher_X11_checkFisher : GoodIn wsX11_fisher (wsV RX11 122 RX11 yX11_checkFisher wsX11_checkFisher) := sorry

theorem i_X11_fisher_X11 : ∀ w ∈ u_ws RX11 TX11 4, w ∈ wsX11_fisher := sorry

theorem i_X11_fisher_X7 : ∀ w ∈ u_ws RX7 TX7 17, w ∈ wsX11_fisher := sorry

theorem i_X11_fisher_X1 : ∀ w ∈ u_ws RX1 TX1 11, w ∈ wsX11_fisher := sorry

abbrev rX11_fisher : Room := { frames := 7, cells := 2, slots := 12, locals := 103 }
noncomputable def b_X11_fisher_124 (M : gMem) (s0 : Int32) : Option ((Nat ⊕ Int32) × gMem) :=
  some (.inr s0, M)
noncomputable def b_X11_fisher_0 (M : gMem) (x0 : Nat) (x1 : Int32) (x2 : Int32) : Option ((Nat ⊕ Int32) × gMem) :=
  ck (mT M x0 = 10) <| bx (f_X11_checkFisher M x0 x1) (fun e1 M1 => some (.inl e1, M1)) fun _ M1 => ck (mT M1 x0 = 10) <| dr ((mR M1 x0 1)) fun a4 => ck (mT M1 a4 = 7) <| dr ((mR M1 a4 7)) fun a6 => ck (mT M1 a6 = 24) <| ck (inb x1 (mL M1 a6)) <| (if x2 = (0 : Int32) then dr ((mR M1 a6 x1.toNatClampNeg)) fun a10 => ck (mT M1 a10 = 1) <| some (.inr (mI M1 a10 1), M1) else (if x2 = (1 : Int32) then dr ((mR M1 a6 x1.toNatClampNeg)) fun a13 => ck (mT M1 a13 = 1) <| some (.inr (mI M1 a13 0), M1) else (if x2 = (2 : Int32) then dr ((mR M1 a6 x1.toNatClampNeg)) fun a16 => ck (mT M1 a16 = 1) <| some (.inr (mI M1 a16 2), M1) else (if x2 = (3 : Int32) then dr ((mR M1 a6 x1.toNatClampNeg)) fun a19 => ck (mT M1 a19 = 1) <| some (.inr (mI M1 a19 3), M1) else (if x2 = (4 : Int32) then dr ((mR M1 a6 x1.toNatClampNeg)) fun a22 => ck (mT M1 a22 = 1) <| some (.inr (mI M1 a22 4), M1) else (if x2 = (5 : Int32) then dr ((mR M1 a6 x1.toNatClampNeg)) fun a25 => ck (mT M1 a25 = 1) <| some (.inr (mI M1 a25 5), M1) else (if x2 = (6 : Int32) then dr ((mR M1 a6 x1.toNatClampNeg)) fun a28 => ck (mT M1 a28 = 1) <| some (.inr (mI M1 a28 6), M1) else (if x2 = (7 : Int32) then dr ((mR M1 a6 x1.toNatClampNeg)) fun a31 => ck (mT M1 a31 = 1) <| some (.inr (mI M1 a31 7), M1) else (if x2 = (8 : Int32) then dr ((mR M1 a6 x1.toNatClampNeg)) fun a34 => ck (mT M1 a34 = 1) <| (if (mI M1 a34 9) = 0 then b_X11_fisher_124 M1 ((0 : Int32)) else b_X11_fisher_124 M1 ((1 : Int32))) else (if x2 = (9 : Int32) then dr ((mR M1 a6 x1.toNatClampNeg)) fun a37 => ck (mT M1 a37 = 1) <| some (.inr (mI M1 a37 8), M1) else some (.inl 2, M1)))))))))))
noncomputable def f_X11_fisher (M : gMem) (x0 : Nat) (x1 : Int32) (x2 : Int32) : Option ((Nat ⊕ Int32) × gMem) :=
  b_X11_fisher_0 M x0 x1 x2
set_option maxHeartbeats 4000000 in
set_option maxRecDepth 100000 in
theorem t_X11_fisher_124 (X2 : gX p s m args meth c D cy B (gSt2 Z B H0) RX11 cX11_fisher wsX11_fisher 4) (hr : meth.sig.returnType = (some .int)) (hlx : l.stackTraces = false) (hH : ∀ q : Nat, q < B → s.heap[q]? = H0[q]?) (hne : ∀ x ∈ c.exceptionTable.toList, False) (hH0 : H0.size = B) {Q : State → Prop} : ∀ (M : gMem) (s0 : Int32) (z : (Nat ⊕ Int32) × gMem), b_X11_fisher_124 M s0 = some z → (fun (r : (Nat ⊕ Int32) × gMem) => Q = gMX below D cy B H0 args s 2 12 (gzI r.1) r.2) z → gGo p l e rX11_fisher s m args below meth c D cy B H0 4 1 6 Q 124 [] [vI s0] M := sorry

set_option maxHeartbeats 4000000 in
set_option maxRecDepth 100000 in
theorem t_X11_fisher_0 (X2 : gX p s m args meth c D cy B (gSt2 Z B H0) RX11 cX11_fisher wsX11_fisher 4) (hr : meth.sig.returnType = (some .int)) (hlx : l.stackTraces = false) (hH : ∀ q : Nat, q < B → s.heap[q]? = H0[q]?) (hne : ∀ x ∈ c.exceptionTable.toList, False) (hH0 : H0.size = B) {Q : State → Prop} : ∀ (M : gMem) (x0 : Nat) (x1 : Int32) (x2 : Int32) (z : (Nat ⊕ Int32) × gMem), b_X11_fisher_0 M x0 x1 x2 = some z → (fun (r : (Nat ⊕ Int32) × gMem) => Q = gMX below D cy B H0 args s 2 12 (gzI r.1) r.2) z → gGo p l e rX11_fisher s m args below meth c D cy B H0 4 0 0 Q 0 [(0, vR (some x0)), (1, vI x1), (2, vI x2)] [] M := sorry

set_option maxHeartbeats 4000000 in
set_option maxRecDepth 100000 in
theorem m_X11_fisher (l : Launch) (hlx : l.stackTraces = false) {D : va_G} {cy : Nat → ClassId} {B : Nat} {H0 : Heap} {Z : Nat → Nat} {M M1 : gMem} {x0 : Nat} {x1 : Int32} {x2 : Int32} {r : (Nat ⊕ Int32)} (hH0 : H0.size = B) (hf : f_X11_fisher M x0 x1 x2 = some (r, M1)) : vx_Met l yX11_fisher wsX11_fisher rX11_fisher (va_Pc (Value.ref x0 :: List.map gv [vI x1, vI x2]) (gPre D cy B H0 (gSt2 Z B H0) M)) (gQX D cy B H0 (gzI r) M1) (gXC D cy B H0 (gzI r) M1) 2 12 (gA B) := sorry

/-! ## TideLots.pact(II)I -/
set_option maxRecDepth 20000 in
set_option maxRecDepth 20000 in
theorem gX11_pact_X5_splits : GoodIn wsX11_pact (wsV RX11 168 RX5 yX5_splits wsX5_splits) := sorry

theorem i_X11_pact_X11 : ∀ w ∈ u_ws RX11 TX11 4, w ∈ wsX11_pact := sorry

theorem i_X11_pact_X7 : ∀ w ∈ u_ws RX7 TX7 17, w ∈ wsX11_pact := sorry

theorem i_X11_pact_X5 : ∀ w ∈ u_ws RX5 TX5 8, w ∈ wsX11_pact := sorry

abbrev rX11_pact : Room := { frames := 6, cells := 1, slots := 6, locals := 82 }
noncomputable def b_X11_pact_92 (M : gMem) (s0 : Int32) : Option ((Nat ⊕ Int32) × gMem) :=
  some (.inr s0, M)
noncomputable def b_X11_pact_15 (M : gMem)  : Option ((Nat ⊕ Int32) × gMem) :=
  some (.inl 2, M)
noncomputable def b_X11_pact_0 (M : gMem) (x0 : Nat) (x1 : Int32) (x2 : Int32) : Option ((Nat ⊕ Int32) × gMem) :=
  (if x1 < 0 then b_X11_pact_15 M  else ck (mT M x0 = 10) <| dr ((mR M x0 1)) fun a2 => ck (mT M a2 = 7) <| (if x1 < (mI M a2 5) then dr ((mR M a2 9)) fun a4 => ck (mT M a4 = 26) <| ck (inb x1 (mL M a4)) <| (if x2 = (0 : Int32) then dr ((mR M a4 x1.toNatClampNeg)) fun a9 => ck (mT M a9 = 5) <| bd (f_X5_splits M a9) fun r8 M8 => (if r8 = 0 then b_X11_pact_92 M8 ((1 : Int32)) else b_X11_pact_92 M8 ((0 : Int32))) else (if x2 = (1 : Int32) then dr ((mR M a4 x1.toNatClampNeg)) fun a12 => ck (mT M a12 = 5) <| some (.inr (mI M a12 0), M) else (if x2 = (2 : Int32) then dr ((mR M a4 x1.toNatClampNeg)) fun a15 => ck (mT M a15 = 5) <| some (.inr (mI M a15 3), M) else (if x2 = (3 : Int32) then dr ((mR M a4 x1.toNatClampNeg)) fun a18 => ck (mT M a18 = 5) <| dr ((mR M a18 4)) fun a20 => ck (mT M a20 = 20) <| ck (inb (0 : Int32) (mL M a20)) <| some (.inr (mI M a20 ((0 : Int32)).toNatClampNeg), M) else (if x2 = (4 : Int32) then dr ((mR M a4 x1.toNatClampNeg)) fun a24 => ck (mT M a24 = 5) <| some (.inr (mI M a24 5), M) else (if x2 = (5 : Int32) then dr ((mR M a4 x1.toNatClampNeg)) fun a27 => ck (mT M a27 = 5) <| some (.inr (mI M a27 6), M) else (if x2 = (6 : Int32) then dr ((mR M a4 x1.toNatClampNeg)) fun a30 => ck (mT M a30 = 5) <| some (.inr (mI M a30 7), M) else some (.inl 2, M)))))))) else b_X11_pact_15 M ))
noncomputable def f_X11_pact (M : gMem) (x0 : Nat) (x1 : Int32) (x2 : Int32) : Option ((Nat ⊕ Int32) × gMem) :=
  b_X11_pact_0 M x0 x1 x2
set_option maxHeartbeats 4000000 in
set_option maxRecDepth 100000 in
theorem t_X11_pact_92 (X2 : gX p s m args meth c D cy B (gSt2 Z B H0) RX11 cX11_pact wsX11_pact 4) (hr : meth.sig.returnType = (some .int)) (hlx : l.stackTraces = false) (hH : ∀ q : Nat, q < B → s.heap[q]? = H0[q]?) (hne : ∀ x ∈ c.exceptionTable.toList, False) (hH0 : H0.size = B) {Q : State → Prop} : ∀ (M : gMem) (s0 : Int32) (z : (Nat ⊕ Int32) × gMem), b_X11_pact_92 M s0 = some z → (fun (r : (Nat ⊕ Int32) × gMem) => Q = gMX below D cy B H0 args s 1 6 (gzI r.1) r.2) z → gGo p l e rX11_pact s m args below meth c D cy B H0 4 0 0 Q 92 [] [vI s0] M := sorry

set_option maxHeartbeats 4000000 in
set_option maxRecDepth 100000 in
theorem t_X11_pact_15 (X2 : gX p s m args meth c D cy B (gSt2 Z B H0) RX11 cX11_pact wsX11_pact 4) (hr : meth.sig.returnType = (some .int)) (hlx : l.stackTraces = false) (hH : ∀ q : Nat, q < B → s.heap[q]? = H0[q]?) (hne : ∀ x ∈ c.exceptionTable.toList, False) (hH0 : H0.size = B) {Q : State → Prop} : ∀ (M : gMem)  (z : (Nat ⊕ Int32) × gMem), b_X11_pact_15 M  = some z → (fun (r : (Nat ⊕ Int32) × gMem) => Q = gMX below D cy B H0 args s 1 6 (gzI r.1) r.2) z → gGo p l e rX11_pact s m args below meth c D cy B H0 4 0 0 Q 15 [] [] M := sorry

set_option maxHeartbeats 4000000 in
set_option maxRecDepth 100000 in
theorem t_X11_pact_0 (X2 : gX p s m args meth c D cy B (gSt2 Z B H0) RX11 cX11_pact wsX11_pact 4) (hr : meth.sig.returnType = (some .int)) (hlx : l.stackTraces = false) (hH : ∀ q : Nat, q < B → s.heap[q]? = H0[q]?) (hne : ∀ x ∈ c.exceptionTable.toList, False) (hH0 : H0.size = B) {Q : State → Prop} : ∀ (M : gMem) (x0 : Nat) (x1 : Int32) (x2 : Int32) (z : (Nat ⊕ Int32) × gMem), b_X11_pact_0 M x0 x1 x2 = some z → (fun (r : (Nat ⊕ Int32) × gMem) => Q = gMX below D cy B H0 args s 1 6 (gzI r.1) r.2) z → gGo p l e rX11_pact s m args below meth c D cy B H0 4 0 0 Q 0 [(0, vR (some x0)), (1, vI x1), (2, vI x2)] [] M := sorry

set_option maxHeartbeats 4000000 in
set_option maxRecDepth 100000 in
theorem m_X11_pact (l : Launch) (hlx : l.stackTraces = false) {D : va_G} {cy : Nat → ClassId} {B : Nat} {H0 : Heap} {Z : Nat → Nat} {M M1 : gMem} {x0 : Nat} {x1 : Int32} {x2 : Int32} {r : (Nat ⊕ Int32)} (hH0 : H0.size = B) (hf : f_X11_pact M x0 x1 x2 = some (r, M1)) : vx_Met l yX11_pact wsX11_pact rX11_pact (va_Pc (Value.ref x0 :: List.map gv [vI x1, vI x2]) (gPre D cy B H0 (gSt2 Z B H0) M)) (gQX D cy B H0 (gzI r) M1) (gXC D cy B H0 (gzI r) M1) 1 6 (gA B) := sorry

/-! ## TideLots.cheat(IZ)I -/
set_option maxRecDepth 20000 in
set_option maxRecDepth 20000 in
theorem gX11_cheat_X11_checkFisher : GoodIn wsX11_cheat (wsV RX11 122 RX11 yX11_checkFisher wsX11_checkFisher) := sorry

set_option maxRecDepth 20000 in
set_option maxRecDepth 20000 in
theorem gX11_cheat_X7_allCheats : GoodIn wsX11_cheat (wsV RX11 89 RX7 yX7_allCheats wsX7_allCheats) := sorry

theorem i_X11_cheat_X11 : ∀ w ∈ u_ws RX11 TX11 4, w ∈ wsX11_cheat := sorry

theorem i_X11_cheat_X7 : ∀ w ∈ u_ws RX7 TX7 17, w ∈ wsX11_cheat := sorry

theorem i_X11_cheat_X1 : ∀ w ∈ u_ws RX1 TX1 11, w ∈ wsX11_cheat := sorry

abbrev rX11_cheat : Room := { frames := 7, cells := 1, slots := 6, locals := 103 }
noncomputable def b_X11_cheat_0 (M : gMem) (x0 : Nat) (x1 : Int32) (x2 : Int32) : Option ((Nat ⊕ Int32) × gMem) :=
  ck (mT M x0 = 10) <| bx (f_X11_checkFisher M x0 x1) (fun e1 M1 => some (.inl e1, M1)) fun _ M1 => ck (mT M1 x0 = 10) <| dr ((mR M1 x0 1)) fun a4 => ck (mT M1 a4 = 7) <| dr ((mR M1 a4 7)) fun a6 => ck (mT M1 a6 = 24) <| ck (inb x1 (mL M1 a6)) <| dr ((mR M1 a6 x1.toNatClampNeg)) fun a9 => ck (mT M1 a9 = 1) <| ck (x2 = 0 ∨ x2 = 1) <| lw (wI M1 a9 9 x2) fun M12 => dr ((mR M12 x0 1)) fun a18 => ck (mT M12 a18 = 7) <| bd (f_X7_allCheats M12 a18) fun r17 M17 => some (.inr r17, M17)
noncomputable def f_X11_cheat (M : gMem) (x0 : Nat) (x1 : Int32) (x2 : Int32) : Option ((Nat ⊕ Int32) × gMem) :=
  b_X11_cheat_0 M x0 x1 x2
set_option maxHeartbeats 4000000 in
set_option maxRecDepth 100000 in
theorem t_X11_cheat_0 (X2 : gX p s m args meth c D cy B (gSt2 Z B H0) RX11 cX11_cheat wsX11_cheat 3) (hr : meth.sig.returnType = (some .int)) (hlx : l.stackTraces = false) (hH : ∀ q : Nat, q < B → s.heap[q]? = H0[q]?) (hne : ∀ x ∈ c.exceptionTable.toList, False) (hH0 : H0.size = B) {Q : State → Prop} : ∀ (M : gMem) (x0 : Nat) (x1 : Int32) (x2 : Int32) (z : (Nat ⊕ Int32) × gMem), b_X11_cheat_0 M x0 x1 x2 = some z → (fun (r : (Nat ⊕ Int32) × gMem) => Q = gMX below D cy B H0 args s 1 6 (gzI r.1) r.2) z → gGo p l e rX11_cheat s m args below meth c D cy B H0 3 0 0 Q 0 [(0, vR (some x0)), (1, vI x1), (2, vI x2)] [] M := sorry

set_option maxHeartbeats 4000000 in
set_option maxRecDepth 100000 in
theorem m_X11_cheat (l : Launch) (hlx : l.stackTraces = false) {D : va_G} {cy : Nat → ClassId} {B : Nat} {H0 : Heap} {Z : Nat → Nat} {M M1 : gMem} {x0 : Nat} {x1 : Int32} {x2 : Int32} {r : (Nat ⊕ Int32)} (hH0 : H0.size = B) (hf : f_X11_cheat M x0 x1 x2 = some (r, M1)) : vx_Met l yX11_cheat wsX11_cheat rX11_cheat (va_Pc (Value.ref x0 :: List.map gv [vI x1, vI x2]) (gPre D cy B H0 (gSt2 Z B H0) M)) (gQX D cy B H0 (gzI r) M1) (gXC D cy B H0 (gzI r) M1) 1 6 (gA B) := sorry

/-! ## TideLots.lot(I)I -/
set_option maxRecDepth 20000 in
set_option maxRecDepth 20000 in
theorem gX11_lot_X7_drawLots : GoodIn wsX11_lot (wsV RX11 197 RX7 yX7_drawLots wsX7_drawLots) := sorry

theorem i_X11_lot_X11 : ∀ w ∈ u_ws RX11 TX11 4, w ∈ wsX11_lot := sorry

theorem i_X11_lot_X7 : ∀ w ∈ u_ws RX7 TX7 17, w ∈ wsX11_lot := sorry

abbrev rX11_lot : Room := { frames := 6, cells := 1, slots := 6, locals := 82 }
noncomputable def b_X11_lot_15 (M : gMem)  : Option ((Nat ⊕ Int32) × gMem) :=
  some (.inl 2, M)
noncomputable def b_X11_lot_0 (M : gMem) (x0 : Nat) (x1 : Int32) : Option ((Nat ⊕ Int32) × gMem) :=
  (if x1 < 0 then b_X11_lot_15 M  else ck (mT M x0 = 10) <| dr ((mR M x0 1)) fun a2 => ck (mT M a2 = 7) <| (if x1 < (mI M a2 3) then bd (f_X7_drawLots M a2) fun r4 M4 => ck (mT M4 x0 = 10) <| dr ((mR M4 x0 1)) fun a6 => ck (mT M4 a6 = 7) <| dr ((mR M4 a6 11)) fun a8 => ck (mT M4 a8 = 20) <| ck (inb x1 (mL M4 a8)) <| some (.inr (mI M4 a8 x1.toNatClampNeg), M4) else b_X11_lot_15 M ))
noncomputable def f_X11_lot (M : gMem) (x0 : Nat) (x1 : Int32) : Option ((Nat ⊕ Int32) × gMem) :=
  b_X11_lot_0 M x0 x1
set_option maxHeartbeats 4000000 in
set_option maxRecDepth 100000 in
theorem t_X11_lot_15 (X2 : gX p s m args meth c D cy B (gSt2 Z B H0) RX11 cX11_lot wsX11_lot 2) (hr : meth.sig.returnType = (some .int)) (hlx : l.stackTraces = false) (hH : ∀ q : Nat, q < B → s.heap[q]? = H0[q]?) (hne : ∀ x ∈ c.exceptionTable.toList, False) (hH0 : H0.size = B) {Q : State → Prop} : ∀ (M : gMem)  (z : (Nat ⊕ Int32) × gMem), b_X11_lot_15 M  = some z → (fun (r : (Nat ⊕ Int32) × gMem) => Q = gMX below D cy B H0 args s 1 6 (gzI r.1) r.2) z → gGo p l e rX11_lot s m args below meth c D cy B H0 2 0 0 Q 15 [] [] M := sorry

set_option maxHeartbeats 4000000 in
set_option maxRecDepth 100000 in
theorem t_X11_lot_0 (X2 : gX p s m args meth c D cy B (gSt2 Z B H0) RX11 cX11_lot wsX11_lot 2) (hr : meth.sig.returnType = (some .int)) (hlx : l.stackTraces = false) (hH : ∀ q : Nat, q < B → s.heap[q]? = H0[q]?) (hne : ∀ x ∈ c.exceptionTable.toList, False) (hH0 : H0.size = B) {Q : State → Prop} : ∀ (M : gMem) (x0 : Nat) (x1 : Int32) (z : (Nat ⊕ Int32) × gMem), b_X11_lot_0 M x0 x1 = some z → (fun (r : (Nat ⊕ Int32) × gMem) => Q = gMX below D cy B H0 args s 1 6 (gzI r.1) r.2) z → gGo p l e rX11_lot s m args below meth c D cy B H0 2 0 0 Q 0 [(0, vR (some x0)), (1, vI x1)] [] M := sorry

set_option maxHeartbeats 4000000 in
set_option maxRecDepth 100000 in
theorem m_X11_lot (l : Launch) (hlx : l.stackTraces = false) {D : va_G} {cy : Nat → ClassId} {B : Nat} {H0 : Heap} {Z : Nat → Nat} {M M1 : gMem} {x0 : Nat} {x1 : Int32} {r : (Nat ⊕ Int32)} (hH0 : H0.size = B) (hf : f_X11_lot M x0 x1 = some (r, M1)) : vx_Met l yX11_lot wsX11_lot rX11_lot (va_Pc (Value.ref x0 :: List.map gv [vI x1]) (gPre D cy B H0 (gSt2 Z B H0) M)) (gQX D cy B H0 (gzI r) M1) (gXC D cy B H0 (gzI r) M1) 1 6 (gA B) := sorry

/-! ## TideLots.took(II)I -/
set_option maxRecDepth 20000 in
set_option maxRecDepth 20000 in
theorem gX11_took_X11_checkGround : GoodIn wsX11_took (wsV RX11 97 RX11 yX11_checkGround wsX11_checkGround) := sorry

set_option maxRecDepth 20000 in
set_option maxRecDepth 20000 in
theorem gX11_took_X11_checkFisher : GoodIn wsX11_took (wsV RX11 122 RX11 yX11_checkFisher wsX11_checkFisher) := sorry

theorem i_X11_took_X11 : ∀ w ∈ u_ws RX11 TX11 4, w ∈ wsX11_took := sorry

theorem i_X11_took_X7 : ∀ w ∈ u_ws RX7 TX7 17, w ∈ wsX11_took := sorry

theorem i_X11_took_X1 : ∀ w ∈ u_ws RX1 TX1 11, w ∈ wsX11_took := sorry

abbrev rX11_took : Room := { frames := 7, cells := 2, slots := 12, locals := 103 }
noncomputable def b_X11_took_0 (M : gMem) (x0 : Nat) (x1 : Int32) (x2 : Int32) : Option ((Nat ⊕ Int32) × gMem) :=
  ck (mT M x0 = 10) <| bx (f_X11_checkGround M x0 x1) (fun e1 M1 => some (.inl e1, M1)) fun _ M1 => ck (mT M1 x0 = 10) <| bx (f_X11_checkFisher M1 x0 x2) (fun e3 M3 => some (.inl e3, M3)) fun _ M3 => ck (mT M3 x0 = 10) <| dr ((mR M3 x0 1)) fun a6 => ck (mT M3 a6 = 7) <| dr ((mR M3 a6 7)) fun a8 => ck (mT M3 a8 = 24) <| ck (inb x2 (mL M3 a8)) <| dr ((mR M3 a8 x2.toNatClampNeg)) fun a11 => ck (mT M3 a11 = 1) <| dr ((mR M3 a11 10)) fun a13 => ck (mT M3 a13 = 20) <| ck (inb x1 (mL M3 a13)) <| some (.inr (mI M3 a13 x1.toNatClampNeg), M3)
noncomputable def f_X11_took (M : gMem) (x0 : Nat) (x1 : Int32) (x2 : Int32) : Option ((Nat ⊕ Int32) × gMem) :=
  b_X11_took_0 M x0 x1 x2
set_option maxHeartbeats 4000000 in
set_option maxRecDepth 100000 in
theorem t_X11_took_0 (X2 : gX p s m args meth c D cy B (gSt2 Z B H0) RX11 cX11_took wsX11_took 3) (hr : meth.sig.returnType = (some .int)) (hlx : l.stackTraces = false) (hH : ∀ q : Nat, q < B → s.heap[q]? = H0[q]?) (hne : ∀ x ∈ c.exceptionTable.toList, False) (hH0 : H0.size = B) {Q : State → Prop} : ∀ (M : gMem) (x0 : Nat) (x1 : Int32) (x2 : Int32) (z : (Nat ⊕ Int32) × gMem), b_X11_took_0 M x0 x1 x2 = some z → (fun (r : (Nat ⊕ Int32) × gMem) => Q = gMX below D cy B H0 args s 2 12 (gzI r.1) r.2) z → gGo p l e rX11_took s m args below meth c D cy B H0 3 0 0 Q 0 [(0, vR (some x0)), (1, vI x1), (2, vI x2)] [] M := sorry

set_option maxHeartbeats 4000000 in
set_option maxRecDepth 100000 in
theorem m_X11_took (l : Launch) (hlx : l.stackTraces = false) {D : va_G} {cy : Nat → ClassId} {B : Nat} {H0 : Heap} {Z : Nat → Nat} {M M1 : gMem} {x0 : Nat} {x1 : Int32} {x2 : Int32} {r : (Nat ⊕ Int32)} (hH0 : H0.size = B) (hf : f_X11_took M x0 x1 x2 = some (r, M1)) : vx_Met l yX11_took wsX11_took rX11_took (va_Pc (Value.ref x0 :: List.map gv [vI x1, vI x2]) (gPre D cy B H0 (gSt2 Z B H0) M)) (gQX D cy B H0 (gzI r) M1) (gXC D cy B H0 (gzI r) M1) 2 12 (gA B) := sorry

/-! ## TideLots.blame(I)I -/
set_option maxRecDepth 20000 in
set_option maxRecDepth 20000 in
theorem gX11_blame_X11_checkGround : GoodIn wsX11_blame (wsV RX11 97 RX11 yX11_checkGround wsX11_checkGround) := sorry

theorem i_X11_blame_X11 : ∀ w ∈ u_ws RX11 TX11 4, w ∈ wsX11_blame := sorry

theorem i_X11_blame_X7 : ∀ w ∈ u_ws RX7 TX7 17, w ∈ wsX11_blame := sorry

theorem i_X11_blame_X1 : ∀ w ∈ u_ws RX1 TX1 11, w ∈ wsX11_blame := sorry

abbrev rX11_blame : Room := { frames := 7, cells := 1, slots := 6, locals := 103 }
noncomputable def b_X11_blame_53 (M : gMem) (x0 : Nat) (x1 : Int32) (x2 : Int32) (x3 : Int32) (x4 : Int32) : Option ((gMem × Int32 × Int32 × Int32) ⊕ ((Nat ⊕ Int32) × gMem)) :=
  some (.inl (M, x2, x3, (x4 + (1 : Int32))))
noncomputable def bb_X11_blame_12 (M : gMem) (x0 : Nat) (x1 : Int32) (x2 : Int32) (x3 : Int32) (x4 : Int32) : Option ((gMem × Int32 × Int32 × Int32) ⊕ ((Nat ⊕ Int32) × gMem)) :=
  ck (mT M x0 = 10) <| dr ((mR M x0 1)) fun a2 => ck (mT M a2 = 7) <| (if (mI M a2 3) ≤ x4 then oI (some (.inr x2, M)) else dr ((mR M a2 7)) fun a5 => ck (mT M a5 = 24) <| ck (inb x4 (mL M a5)) <| dr ((mR M a5 x4.toNatClampNeg)) fun a8 => ck (mT M a8 = 1) <| dr ((mR M a8 10)) fun a10 => ck (mT M a10 = 20) <| ck (inb x1 (mL M a10)) <| (if (mI M a10 x1.toNatClampNeg) ≤ x3 then b_X11_blame_53 M x0 x1 x2 x3 x4 else b_X11_blame_53 M x0 x1 x4 ((mI M a10 x1.toNatClampNeg)) x4))
noncomputable def lp_X11_blame_12 (M : gMem) (x0 : Nat) (x1 : Int32) (x2 : Int32) (x3 : Int32) (x4 : Int32) : Option ((Nat ⊕ Int32) × gMem) :=
  lp (fun (q : gMem × Int32 × Int32 × Int32) => bb_X11_blame_12 q.1 x0 x1 q.2.1 q.2.2.1 q.2.2.2) (M, x2, x3, x4)
noncomputable def b_X11_blame_0 (M : gMem) (x0 : Nat) (x1 : Int32) : Option ((Nat ⊕ Int32) × gMem) :=
  ck (mT M x0 = 10) <| bx (f_X11_checkGround M x0 x1) (fun e13 M13 => some (.inl e13, M13)) fun _ M13 => lp_X11_blame_12 M13 x0 x1 ((-1 : Int32)) ((0 : Int32)) ((0 : Int32))
noncomputable def f_X11_blame (M : gMem) (x0 : Nat) (x1 : Int32) : Option ((Nat ⊕ Int32) × gMem) :=
  b_X11_blame_0 M x0 x1
set_option maxHeartbeats 4000000 in
set_option maxRecDepth 100000 in
theorem t_X11_blame_53 (X2 : gX p s m args meth c D cy B (gSt2 Z B H0) RX11 cX11_blame wsX11_blame 6) (hr : meth.sig.returnType = (some .int)) (hlx : l.stackTraces = false) (hH : ∀ q : Nat, q < B → s.heap[q]? = H0[q]?) (hne : ∀ x ∈ c.exceptionTable.toList, False) (hH0 : H0.size = B) {Q : State → Prop} : ∀ (M : gMem) (x0 : Nat) (x1 : Int32) (x2 : Int32) (x3 : Int32) (x4 : Int32) (z : (gMem × Int32 × Int32 × Int32) ⊕ ((Nat ⊕ Int32) × gMem)), b_X11_blame_53 M x0 x1 x2 x3 x4 = some z → (Sum.elim (fun (q : gMem × Int32 × Int32 × Int32) => gGo p l e rX11_blame s m args below meth c D cy B H0 6 1 6 Q 12 [(0, vR (some x0)), (1, vI x1), (2, vI q.2.1), (3, vI q.2.2.1), (4, vI q.2.2.2)] [] q.1) (fun (r : (Nat ⊕ Int32) × gMem) => Q = gMX below D cy B H0 args s 1 6 (gzI r.1) r.2)) z → gGo p l e rX11_blame s m args below meth c D cy B H0 6 1 6 Q 53 [(0, vR (some x0)), (1, vI x1), (2, vI x2), (3, vI x3), (4, vI x4)] [] M := sorry

set_option maxHeartbeats 4000000 in
set_option maxRecDepth 100000 in
set_option maxHeartbeats 4000000 in
set_option maxRecDepth 100000 in
set_option maxHeartbeats 4000000 in
set_option maxRecDepth 100000 in
theorem t_X11_blame_0 (X2 : gX p s m args meth c D cy B (gSt2 Z B H0) RX11 cX11_blame wsX11_blame 6) (hr : meth.sig.returnType = (some .int)) (hlx : l.stackTraces = false) (hH : ∀ q : Nat, q < B → s.heap[q]? = H0[q]?) (hne : ∀ x ∈ c.exceptionTable.toList, False) (hH0 : H0.size = B) {Q : State → Prop} : ∀ (M : gMem) (x0 : Nat) (x1 : Int32) (z : (Nat ⊕ Int32) × gMem), b_X11_blame_0 M x0 x1 = some z → (fun (r : (Nat ⊕ Int32) × gMem) => Q = gMX below D cy B H0 args s 1 6 (gzI r.1) r.2) z → gGo p l e rX11_blame s m args below meth c D cy B H0 6 0 0 Q 0 [(0, vR (some x0)), (1, vI x1)] [] M := sorry

set_option maxHeartbeats 4000000 in
set_option maxRecDepth 100000 in
theorem m_X11_blame (l : Launch) (hlx : l.stackTraces = false) {D : va_G} {cy : Nat → ClassId} {B : Nat} {H0 : Heap} {Z : Nat → Nat} {M M1 : gMem} {x0 : Nat} {x1 : Int32} {r : (Nat ⊕ Int32)} (hH0 : H0.size = B) (hf : f_X11_blame M x0 x1 = some (r, M1)) : vx_Met l yX11_blame wsX11_blame rX11_blame (va_Pc (Value.ref x0 :: List.map gv [vI x1]) (gPre D cy B H0 (gSt2 Z B H0) M)) (gQX D cy B H0 (gzI r) M1) (gXC D cy B H0 (gzI r) M1) 1 6 (gA B) := sorry

/-! ## TideLots.pass(I)I -/
set_option maxRecDepth 20000 in
set_option maxRecDepth 20000 in
theorem gX11_pass_X11_checkTides : GoodIn wsX11_pass (va_wsS RX11 209 yX11_checkTides wsX11_checkTides) := sorry

set_option maxRecDepth 20000 in
set_option maxRecDepth 20000 in
theorem gX11_pass_X7_passTides : GoodIn wsX11_pass (wsV RX11 213 RX7 yX7_passTides wsX7_passTides) := sorry

theorem i_X11_pass_X11 : ∀ w ∈ u_ws RX11 TX11 4, w ∈ wsX11_pass := sorry

abbrev rX11_pass : Room := { frames := 7, cells := 1, slots := 6, locals := 141 }
noncomputable def b_X11_pass_0 (Z : Nat → Nat) (M : gMem) (x0 : Nat) (x1 : Int32) : Option ((Nat ⊕ Int32) × gMem) :=
  bx (f_X11_checkTides M x1 ((60 : Int32))) (fun e1 M1 => some (.inl e1, M1)) fun _ M1 => ck (mT M1 x0 = 10) <| dr ((mR M1 x0 1)) fun a4 => ck (mT M1 a4 = 7) <| bd (f_X7_passTides Z M1 a4 x1) fun r3 M3 => some (.inr r3, M3)
noncomputable def f_X11_pass (Z : Nat → Nat) (M : gMem) (x0 : Nat) (x1 : Int32) : Option ((Nat ⊕ Int32) × gMem) :=
  b_X11_pass_0 Z M x0 x1
set_option maxHeartbeats 4000000 in
set_option maxRecDepth 100000 in
theorem t_X11_pass_0 (X2 : gX p s m args meth c D cy B (gSt2 Z B H0) RX11 cX11_pass wsX11_pass 2) (hr : meth.sig.returnType = (some .int)) (hlx : l.stackTraces = false) (hH : ∀ q : Nat, q < B → s.heap[q]? = H0[q]?) (hne : ∀ x ∈ c.exceptionTable.toList, False) (hH0 : H0.size = B) {Q : State → Prop} : ∀ (M : gMem) (x0 : Nat) (x1 : Int32) (z : (Nat ⊕ Int32) × gMem), b_X11_pass_0 Z M x0 x1 = some z → (fun (r : (Nat ⊕ Int32) × gMem) => Q = gMX below D cy B H0 args s 1 6 (gzI r.1) r.2) z → gGo p l e rX11_pass s m args below meth c D cy B H0 2 0 0 Q 0 [(0, vR (some x0)), (1, vI x1)] [] M := sorry

set_option maxHeartbeats 4000000 in
set_option maxRecDepth 100000 in
theorem m_X11_pass (l : Launch) (hlx : l.stackTraces = false) {D : va_G} {cy : Nat → ClassId} {B : Nat} {H0 : Heap} {Z : Nat → Nat} {M M1 : gMem} {x0 : Nat} {x1 : Int32} {r : (Nat ⊕ Int32)} (hH0 : H0.size = B) (hf : f_X11_pass Z M x0 x1 = some (r, M1)) : vx_Met l yX11_pass wsX11_pass rX11_pass (va_Pc (Value.ref x0 :: List.map gv [vI x1]) (gPre D cy B H0 (gSt2 Z B H0) M)) (gQX D cy B H0 (gzI r) M1) (gXC D cy B H0 (gzI r) M1) 1 6 (gA B) := sorry

end
