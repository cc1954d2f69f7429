section
variable {p : Program} {l : Launch} {e : Env} {s : State} {m : MethodId} {args : Array Value} {below : List Frame} {meth : Method} {c : Code} {D : va_G} {cy : Nat → ClassId} {B : Nat} {H0 : Heap} {Z : Nat → Nat}
/-! ## TideLots$Shore.callBoatsHome()V -/
theorem i_X7_callBoatsHome_X7 : ∀ w ∈ u_ws RX7 TX7 17, w ∈ wsX7_callBoatsHome := sorry

theorem i_X7_callBoatsHome_X3 : ∀ w ∈ u_ws RX3 TX3 4, w ∈ wsX7_callBoatsHome := sorry

abbrev rX7_callBoatsHome : Room := { frames := 0, cells := 0, slots := 0, locals := 0 }
noncomputable def bb_X7_callBoatsHome_2 (M : gMem) (x0 : Nat) (x1 : Int32) : Option ((gMem × Int32) ⊕ (Unit × gMem)) :=
  ck (mT M x0 = 7) <| (if (mI M x0 2) ≤ x1 then oI (some ((), M)) else dr ((mR M x0 6)) fun a3 => ck (mT M a3 = 23) <| ck (inb x1 (mL M a3)) <| dr ((mR M a3 x1.toNatClampNeg)) fun a6 => ck (mT M a6 = 3) <| lw (wI M a6 1 ((0 : Int32))) fun M8 => some (.inl (M8, (x1 + (1 : Int32)))))
noncomputable def lp_X7_callBoatsHome_2 (M : gMem) (x0 : Nat) (x1 : Int32) : Option (Unit × gMem) :=
  lp (fun (q : gMem × Int32) => bb_X7_callBoatsHome_2 q.1 x0 q.2) (M, x1)
noncomputable def b_X7_callBoatsHome_0 (M : gMem) (x0 : Nat) : Option (Unit × gMem) :=
  lp_X7_callBoatsHome_2 M x0 ((0 : Int32))
noncomputable def f_X7_callBoatsHome (M : gMem) (x0 : Nat) : Option (Unit × gMem) :=
  b_X7_callBoatsHome_0 M x0
set_option maxHeartbeats 4000000 in
set_option maxRecDepth 100000 in
set_option maxHeartbeats 4000000 in
set_option maxRecDepth 100000 in
set_option maxHeartbeats 4000000 in
set_option maxRecDepth 100000 in
theorem t_X7_callBoatsHome_0 (X : gX p s m args meth c D cy B (gSt Z B H0) RX7 cX7_callBoatsHome wsX7_callBoatsHome 2) (hr : meth.sig.returnType = none) {Q : State → Prop} : ∀ (M : gMem) (x0 : Nat) (z : Unit × gMem), b_X7_callBoatsHome_0 M x0 = some z → (fun (r : Unit × gMem) => Q = gMQ below D cy B H0 args s 0 0 none r.2) z → gGo p l e rX7_callBoatsHome s m args below meth c D cy B H0 2 0 0 Q 0 [(0, vR (some x0))] [] M := sorry

set_option maxHeartbeats 4000000 in
set_option maxRecDepth 100000 in
theorem m_X7_callBoatsHome (l : Launch) {D : va_G} {cy : Nat → ClassId} {B : Nat} {H0 : Heap} {Z : Nat → Nat} {M M1 : gMem} {x0 : Nat} {r : Unit} (hf : f_X7_callBoatsHome M x0 = some (r, M1)) : Met l yX7_callBoatsHome wsX7_callBoatsHome rX7_callBoatsHome (va_Pc (Value.ref x0 :: List.map gv []) (gPre D cy B H0 (gSt Z B H0) M)) (gQ D cy B H0 none M1) 0 0 (gA B) := sorry

/-! ## TideLots$Shore.isSpared(II)Z -/
set_option maxRecDepth 20000 in
set_option maxRecDepth 20000 in
theorem gX7_isSpared_X5_has : GoodIn wsX7_isSpared (wsV RX7 183 RX5 yX5_has wsX5_has) := sorry

set_option maxRecDepth 20000 in
set_option maxRecDepth 20000 in
theorem gX7_isSpared_X3_allFish : GoodIn wsX7_isSpared (wsV RX7 112 RX3 yX3_allFish wsX3_allFish) := sorry

set_option maxRecDepth 20000 in
set_option maxRecDepth 20000 in
theorem gX7_isSpared_X9_reckon : GoodIn wsX7_isSpared (wsV RX7 174 RX9 yX9_reckon wsX9_reckon) := sorry

theorem i_X7_isSpared_X7 : ∀ w ∈ u_ws RX7 TX7 17, w ∈ wsX7_isSpared := sorry

theorem i_X7_isSpared_X5 : ∀ w ∈ u_ws RX5 TX5 8, w ∈ wsX7_isSpared := sorry

theorem i_X7_isSpared_X1 : ∀ w ∈ u_ws RX1 TX1 11, w ∈ wsX7_isSpared := sorry

abbrev rX7_isSpared : Room := { frames := 3, cells := 0, slots := 0, locals := 69 }
noncomputable def b_X7_isSpared_82 (Z : Nat → Nat) (M : gMem) (x0 : Nat) (x1 : Int32) (x2 : Int32) (x3 : Int32) : Option ((gMem × Int32) ⊕ (Int32 × gMem)) :=
  some (.inl (M, (x3 + (1 : Int32))))
noncomputable def bb_X7_isSpared_16 (Z : Nat → Nat) (M : gMem) (x0 : Nat) (x1 : Int32) (x2 : Int32) (x3 : Int32) : Option ((gMem × Int32) ⊕ (Int32 × gMem)) :=
  ck (mT M x0 = 7) <| (if (mI M x0 5) ≤ x3 then oI (some ((0 : Int32), M)) else dr ((mR M x0 9)) fun a3 => ck (mT M a3 = 26) <| ck (inb x3 (mL M a3)) <| dr ((mR M a3 x3.toNatClampNeg)) fun a6 => ck (mT M a6 = 5) <| (if (mI M a6 0) = x1 then bd (f_X5_has M a6 x2) fun r8 M8 => (if r8 = 0 then b_X7_isSpared_82 Z M8 x0 x1 x2 x3 else ck (mT M8 x0 = 7) <| dr ((mR M8 x0 6)) fun a10 => ck (mT M8 a10 = 23) <| ck (inb x1 (mL M8 a10)) <| dr ((mR M8 a10 x1.toNatClampNeg)) fun a14 => ck (mT M8 a14 = 3) <| bd (f_X3_allFish M8 a14) fun r13 M13 => ck (mT M13 x0 = 7) <| ck (mT M13 a6 = 5) <| dr ((mR M13 x0 10)) fun a19 => ck (mT M13 a19 = 8) <| bd (f_X9_reckon Z M13 a19 ((mI M13 a6 1)) ((mI M13 a6 2)) ((some x0))) fun r18 M18 => (if r18 ≤ r13 then b_X7_isSpared_82 Z M18 x0 x1 x2 x3 else oI (some ((1 : Int32), M18)))) else b_X7_isSpared_82 Z M x0 x1 x2 x3))
noncomputable def lp_X7_isSpared_16 (Z : Nat → Nat) (M : gMem) (x0 : Nat) (x1 : Int32) (x2 : Int32) (x3 : Int32) : Option (Int32 × gMem) :=
  lp (fun (q : gMem × Int32) => bb_X7_isSpared_16 Z q.1 x0 x1 x2 q.2) (M, x3)
noncomputable def b_X7_isSpared_0 (Z : Nat → Nat) (M : gMem) (x0 : Nat) (x1 : Int32) (x2 : Int32) : Option (Int32 × gMem) :=
  ck (mT M x0 = 7) <| dr ((mR M x0 7)) fun a23 => ck (mT M a23 = 24) <| ck (inb x2 (mL M a23)) <| dr ((mR M a23 x2.toNatClampNeg)) fun a26 => ck (mT M a26 = 1) <| (if (mI M a26 9) = 0 then lp_X7_isSpared_16 Z M x0 x1 x2 ((0 : Int32)) else some ((0 : Int32), M))
noncomputable def f_X7_isSpared (Z : Nat → Nat) (M : gMem) (x0 : Nat) (x1 : Int32) (x2 : Int32) : Option (Int32 × gMem) :=
  b_X7_isSpared_0 Z M x0 x1 x2
set_option maxHeartbeats 4000000 in
set_option maxRecDepth 100000 in
theorem t_X7_isSpared_82 (X : gX p s m args meth c D cy B (gSt Z B H0) RX7 cX7_isSpared wsX7_isSpared 5) (hr : meth.sig.returnType = (some .boolean)) {Q : State → Prop} : ∀ (M : gMem) (x0 : Nat) (x1 : Int32) (x2 : Int32) (x3 : Int32) (z : (gMem × Int32) ⊕ (Int32 × gMem)), b_X7_isSpared_82 Z M x0 x1 x2 x3 = some z → (Sum.elim (fun (q : gMem × Int32) => gGo p l e rX7_isSpared s m args below meth c D cy B H0 5 0 0 Q 16 [(0, vR (some x0)), (1, vI x1), (2, vI x2), (3, vI q.2)] [] q.1) (fun (r : Int32 × gMem) => Q = gMQ below D cy B H0 args s 0 0 (some (vI r.1)) r.2)) z → gGo p l e rX7_isSpared s m args below meth c D cy B H0 5 0 0 Q 82 [(0, vR (some x0)), (1, vI x1), (2, vI x2), (3, vI x3)] [] M := sorry

set_option maxHeartbeats 4000000 in
set_option maxRecDepth 100000 in
set_option maxHeartbeats 4000000 in
set_option maxRecDepth 100000 in
set_option maxHeartbeats 4000000 in
set_option maxRecDepth 100000 in
theorem t_X7_isSpared_0 (X : gX p s m args meth c D cy B (gSt Z B H0) RX7 cX7_isSpared wsX7_isSpared 5) (hr : meth.sig.returnType = (some .boolean)) {Q : State → Prop} : ∀ (M : gMem) (x0 : Nat) (x1 : Int32) (x2 : Int32) (z : Int32 × gMem), b_X7_isSpared_0 Z M x0 x1 x2 = some z → (fun (r : Int32 × gMem) => Q = gMQ below D cy B H0 args s 0 0 (some (vI r.1)) r.2) z → gGo p l e rX7_isSpared s m args below meth c D cy B H0 5 0 0 Q 0 [(0, vR (some x0)), (1, vI x1), (2, vI x2)] [] M := sorry

set_option maxHeartbeats 4000000 in
set_option maxRecDepth 100000 in
theorem m_X7_isSpared (l : Launch) {D : va_G} {cy : Nat → ClassId} {B : Nat} {H0 : Heap} {Z : Nat → Nat} {M M1 : gMem} {x0 : Nat} {x1 : Int32} {x2 : Int32} {r : Int32} (hf : f_X7_isSpared Z M x0 x1 x2 = some (r, M1)) : Met l yX7_isSpared wsX7_isSpared rX7_isSpared (va_Pc (Value.ref x0 :: List.map gv [vI x1, vI x2]) (gPre D cy B H0 (gSt Z B H0) M)) (gQ D cy B H0 (some (vI r)) M1) 0 0 (gA B) := sorry

/-! ## TideLots$Shore.firstGo(I)I -/
set_option maxRecDepth 20000 in
set_option maxRecDepth 20000 in
theorem gX7_firstGo_X7_isSpared : GoodIn wsX7_firstGo (wsV RX7 178 RX7 yX7_isSpared wsX7_isSpared) := sorry

set_option maxRecDepth 20000 in
set_option maxRecDepth 20000 in
theorem gX7_firstGo_X9_reckon : GoodIn wsX7_firstGo (wsV RX7 174 RX9 yX9_reckon wsX9_reckon) := sorry

theorem i_X7_firstGo_X2 : ∀ w ∈ u_ws RX2 TX2 4, w ∈ wsX7_firstGo := sorry

theorem i_X7_firstGo_X7 : ∀ w ∈ u_ws RX7 TX7 17, w ∈ wsX7_firstGo := sorry

theorem i_X7_firstGo_X3 : ∀ w ∈ u_ws RX3 TX3 4, w ∈ wsX7_firstGo := sorry

abbrev rX7_firstGo : Room := { frames := 4, cells := 0, slots := 0, locals := 93 }
noncomputable def b_X7_firstGo_114 (Z : Nat → Nat) (M : gMem) (x0 : Nat) (x1 : Int32) (x2 : Int32) : Option ((gMem × Int32) ⊕ (Int32 × gMem)) :=
  some (.inl (M, (x2 + (1 : Int32))))
noncomputable def b_X7_firstGo_90 (Z : Nat → Nat) (M : gMem) (x0 : Nat) (x1 : Int32) (x2 : Int32) (x3 : Option Nat) (s0 : Int32) : Option ((gMem × Int32) ⊕ (Int32 × gMem)) :=
  (if s0 = 0 then b_X7_firstGo_114 Z M x0 x1 x2 else dr x3 fun a1 => ck (mT M a1 = 2) <| ck (mT M x0 = 7) <| bd (f_X7_isSpared Z M x0 ((mI M a1 1)) x1) fun r3 M3 => (if r3 = 0 then ck (mT M3 a1 = 2) <| oI (some ((mI M3 a1 1), M3)) else b_X7_firstGo_114 Z M3 x0 x1 x2))
noncomputable def b_X7_firstGo_85 (Z : Nat → Nat) (M : gMem) (x0 : Nat) (x1 : Int32) (x2 : Int32) (x3 : Option Nat) : Option ((gMem × Int32) ⊕ (Int32 × gMem)) :=
  b_X7_firstGo_90 Z M x0 x1 x2 x3 ((1 : Int32))
noncomputable def bb_X7_firstGo_2 (Z : Nat → Nat) (M : gMem) (x0 : Nat) (x1 : Int32) (x2 : Int32) : Option ((gMem × Int32) ⊕ (Int32 × gMem)) :=
  ck (mT M x0 = 7) <| (if (mI M x0 4) ≤ x2 then oI (some ((-1 : Int32), M)) else dr ((mR M x0 8)) fun a9 => ck (mT M a9 = 25) <| ck (inb x2 (mL M a9)) <| dr ((mR M a9 x2.toNatClampNeg)) fun a12 => ck (mT M a12 = 2) <| (if (mI M a12 0) = x1 then dr ((mR M x0 6)) fun a14 => ck (mT M a14 = 23) <| ck (inb (mI M a12 1) (mL M a14)) <| dr ((mR M a14 ((mI M a12 1)).toNatClampNeg)) fun a17 => ck (mT M a17 = 3) <| ck (inb (mI M a12 1) (mL M a14)) <| (if (mI M a17 1) < (mI M a17 0) then (if (mI M a12 2) = (mI M a12 3) then b_X7_firstGo_85 Z M x0 x1 x2 ((mR M a9 x2.toNatClampNeg)) else dr ((mR M x0 10)) fun a21 => ck (mT M a21 = 8) <| bd (f_X9_reckon Z M a21 ((mI M a12 2)) ((mI M a12 3)) ((some x0))) fun r20 M20 => (if r20 = 0 then b_X7_firstGo_90 Z M20 x0 x1 x2 ((mR M a9 x2.toNatClampNeg)) ((0 : Int32)) else b_X7_firstGo_85 Z M20 x0 x1 x2 ((mR M a9 x2.toNatClampNeg)))) else b_X7_firstGo_114 Z M x0 x1 x2) else b_X7_firstGo_114 Z M x0 x1 x2))
noncomputable def lp_X7_firstGo_2 (Z : Nat → Nat) (M : gMem) (x0 : Nat) (x1 : Int32) (x2 : Int32) : Option (Int32 × gMem) :=
  lp (fun (q : gMem × Int32) => bb_X7_firstGo_2 Z q.1 x0 x1 q.2) (M, x2)
noncomputable def b_X7_firstGo_0 (Z : Nat → Nat) (M : gMem) (x0 : Nat) (x1 : Int32) : Option (Int32 × gMem) :=
  lp_X7_firstGo_2 Z M x0 x1 ((0 : Int32))
noncomputable def f_X7_firstGo (Z : Nat → Nat) (M : gMem) (x0 : Nat) (x1 : Int32) : Option (Int32 × gMem) :=
  b_X7_firstGo_0 Z M x0 x1
set_option maxHeartbeats 4000000 in
set_option maxRecDepth 100000 in
theorem t_X7_firstGo_114 (X : gX p s m args meth c D cy B (gSt Z B H0) RX7 cX7_firstGo wsX7_firstGo 5) (hr : meth.sig.returnType = (some .int)) {Q : State → Prop} : ∀ (M : gMem) (x0 : Nat) (x1 : Int32) (x2 : Int32) (z : (gMem × Int32) ⊕ (Int32 × gMem)), b_X7_firstGo_114 Z M x0 x1 x2 = some z → (Sum.elim (fun (q : gMem × Int32) => gGo p l e rX7_firstGo s m args below meth c D cy B H0 5 0 0 Q 2 [(0, vR (some x0)), (1, vI x1), (2, vI q.2)] [] q.1) (fun (r : Int32 × gMem) => Q = gMQ below D cy B H0 args s 0 0 (some (vI r.1)) r.2)) z → gGo p l e rX7_firstGo s m args below meth c D cy B H0 5 0 0 Q 114 [(0, vR (some x0)), (1, vI x1), (2, vI x2)] [] M := sorry

set_option maxHeartbeats 4000000 in
set_option maxRecDepth 100000 in
theorem t_X7_firstGo_90 (X : gX p s m args meth c D cy B (gSt Z B H0) RX7 cX7_firstGo wsX7_firstGo 5) (hr : meth.sig.returnType = (some .int)) {Q : State → Prop} : ∀ (M : gMem) (x0 : Nat) (x1 : Int32) (x2 : Int32) (x3 : Option Nat) (s0 : Int32) (z : (gMem × Int32) ⊕ (Int32 × gMem)), b_X7_firstGo_90 Z M x0 x1 x2 x3 s0 = some z → (Sum.elim (fun (q : gMem × Int32) => gGo p l e rX7_firstGo s m args below meth c D cy B H0 5 0 0 Q 2 [(0, vR (some x0)), (1, vI x1), (2, vI q.2)] [] q.1) (fun (r : Int32 × gMem) => Q = gMQ below D cy B H0 args s 0 0 (some (vI r.1)) r.2)) z → gGo p l e rX7_firstGo s m args below meth c D cy B H0 5 0 0 Q 90 [(0, vR (some x0)), (1, vI x1), (2, vI x2), (3, vR x3)] [vI s0] M := sorry

set_option maxHeartbeats 4000000 in
set_option maxRecDepth 100000 in
theorem t_X7_firstGo_85 (X : gX p s m args meth c D cy B (gSt Z B H0) RX7 cX7_firstGo wsX7_firstGo 5) (hr : meth.sig.returnType = (some .int)) {Q : State → Prop} : ∀ (M : gMem) (x0 : Nat) (x1 : Int32) (x2 : Int32) (x3 : Option Nat) (z : (gMem × Int32) ⊕ (Int32 × gMem)), b_X7_firstGo_85 Z M x0 x1 x2 x3 = some z → (Sum.elim (fun (q : gMem × Int32) => gGo p l e rX7_firstGo s m args below meth c D cy B H0 5 0 0 Q 2 [(0, vR (some x0)), (1, vI x1), (2, vI q.2)] [] q.1) (fun (r : Int32 × gMem) => Q = gMQ below D cy B H0 args s 0 0 (some (vI r.1)) r.2)) z → gGo p l e rX7_firstGo s m args below meth c D cy B H0 5 0 0 Q 85 [(0, vR (some x0)), (1, vI x1), (2, vI x2), (3, vR x3)] [] M := sorry

set_option maxHeartbeats 4000000 in
set_option maxRecDepth 100000 in
set_option maxHeartbeats 4000000 in
set_option maxRecDepth 100000 in
set_option maxHeartbeats 4000000 in
set_option maxRecDepth 100000 in
theorem t_X7_firstGo_0 (X : gX p s m args meth c D cy B (gSt Z B H0) RX7 cX7_firstGo wsX7_firstGo 5) (hr : meth.sig.returnType = (some .int)) {Q : State → Prop} : ∀ (M : gMem) (x0 : Nat) (x1 : Int32) (z : Int32 × gMem), b_X7_firstGo_0 Z M x0 x1 = some z → (fun (r : Int32 × gMem) => Q = gMQ below D cy B H0 args s 0 0 (some (vI r.1)) r.2) z → gGo p l e rX7_firstGo s m args below meth c D cy B H0 5 0 0 Q 0 [(0, vR (some x0)), (1, vI x1)] [] M := sorry

set_option maxHeartbeats 4000000 in
set_option maxRecDepth 100000 in
theorem m_X7_firstGo (l : Launch) {D : va_G} {cy : Nat → ClassId} {B : Nat} {H0 : Heap} {Z : Nat → Nat} {M M1 : gMem} {x0 : Nat} {x1 : Int32} {r : Int32} (hf : f_X7_firstGo Z M x0 x1 = some (r, M1)) : Met l yX7_firstGo wsX7_firstGo rX7_firstGo (va_Pc (Value.ref x0 :: List.map gv [vI x1]) (gPre D cy B H0 (gSt Z B H0) M)) (gQ D cy B H0 (some (vI r)) M1) 0 0 (gA B) := sorry

/-! ## TideLots$Shore.haulFrom(LTideLots$Ground;LTideLots$Fisher;)V -/
set_option maxRecDepth 20000 in
set_option maxRecDepth 20000 in
theorem gX7_haulFrom_X1_tear : GoodIn wsX7_haulFrom (wsV RX7 219 RX1 yX1_tear wsX1_tear) := sorry

theorem i_X7_haulFrom_X7 : ∀ w ∈ u_ws RX7 TX7 17, w ∈ wsX7_haulFrom := sorry

theorem i_X7_haulFrom_X3 : ∀ w ∈ u_ws RX3 TX3 4, w ∈ wsX7_haulFrom := sorry

theorem i_X7_haulFrom_X1 : ∀ w ∈ u_ws RX1 TX1 11, w ∈ wsX7_haulFrom := sorry

abbrev rX7_haulFrom : Room := { frames := 2, cells := 0, slots := 0, locals := 34 }
noncomputable def b_X7_haulFrom_148 (M : gMem)  : Option (Unit × gMem) :=
  some ((), M)
noncomputable def b_X7_haulFrom_133 (M : gMem) (x0 : Nat) (x1 : Option Nat) (x2 : Option Nat) (x3 : Int32) (x4 : Int32) (x5 : Int32) (x6 : Int32) (x7 : Int32) : Option ((gMem × Int32 × Int32 × Int32 × Int32) ⊕ (Unit × gMem)) :=
  some (.inl (M, x4, x5, x6, (x7 + (-1 : Int32))))
noncomputable def b_X7_haulFrom_105 (M : gMem) (x0 : Nat) (x1 : Option Nat) (x2 : Option Nat) (x3 : Int32) (x4 : Int32) (x5 : Int32) (x6 : Int32) (x7 : Int32) (s0 : Option Nat) (s1 : Int32) (s2 : Int32) : Option ((gMem × Int32 × Int32 × Int32 × Int32) ⊕ (Unit × gMem)) :=
  dr s0 fun a1 => ck (mT M a1 = 20) <| ck (inb s1 (mL M a1)) <| lw (wI M a1 s1.toNatClampNeg s2) fun M4 => ck (mT M4 x0 = 7) <| dr ((mR M4 x0 13)) fun a7 => ck (mT M4 a7 = 20) <| ck (inb x7 (mL M4 a7)) <| ck (inb x7 (mL M4 a7)) <| b_X7_haulFrom_133 M4 x0 x1 x2 x3 ((x4 + (mI M4 a7 x7.toNatClampNeg))) ((x5 + ((mI M4 a7 x7.toNatClampNeg) * x7))) x6 x7
noncomputable def b_X7_haulFrom_85 (M : gMem) (x0 : Nat) (x1 : Option Nat) (x2 : Option Nat) (x3 : Int32) (x4 : Int32) (x5 : Int32) (x7 : Int32) (x8 : Int32) (x9 : Int32) (s0 : Int32) : Option ((gMem × Int32 × Int32 × Int32 × Int32) ⊕ (Unit × gMem)) :=
  ck (mT M x0 = 7) <| (if s0 = 0 then b_X7_haulFrom_105 M x0 x1 x2 x3 x4 x5 s0 x7 ((mR M x0 13)) x7 x8 else b_X7_haulFrom_105 M x0 x1 x2 x3 x4 x5 s0 x7 ((mR M x0 13)) x7 x9)
noncomputable def bb_X7_haulFrom_17 (M : gMem) (x0 : Nat) (x1 : Option Nat) (x2 : Option Nat) (x3 : Int32) (x4 : Int32) (x5 : Int32) (x6 : Int32) (x7 : Int32) : Option ((gMem × Int32 × Int32 × Int32 × Int32) ⊕ (Unit × gMem)) :=
  (if x7 < (1 : Int32) then (if x6 = 0 then oI (b_X7_haulFrom_148 M ) else dr x2 fun a14 => ck (mT M a14 = 1) <| bd (f_X1_tear M a14) fun _ M13 => oI (b_X7_haulFrom_148 M13 )) else ck (mT M x0 = 7) <| dr ((mR M x0 13)) fun a18 => ck (mT M a18 = 20) <| ck (inb x7 (mL M a18)) <| lw (wI M a18 x7.toNatClampNeg ((0 : Int32))) fun M21 => (if x7 < x3 then b_X7_haulFrom_133 M21 x0 x1 x2 x3 x4 x5 x6 x7 else (if x6 = 0 then dr x1 fun a24 => ck (mT M21 a24 = 3) <| dr ((mR M21 a24 3)) fun a26 => ck (mT M21 a26 = 20) <| ck (inb x7 (mL M21 a26)) <| dr x2 fun a29 => ck (mT M21 a29 = 1) <| ck (¬ x7 = 0) <| (if (imin ((mI M21 a26 x7.toNatClampNeg)) (((mI M21 a29 3) - x4))) ≤ (((mI M21 a29 2) - x5) / x7) then b_X7_haulFrom_85 M21 x0 x1 x2 x3 x4 x5 x7 ((imin ((mI M21 a26 x7.toNatClampNeg)) (((mI M21 a29 3) - x4)))) ((((mI M21 a29 2) - x5) / x7)) ((0 : Int32)) else b_X7_haulFrom_85 M21 x0 x1 x2 x3 x4 x5 x7 ((imin ((mI M21 a26 x7.toNatClampNeg)) (((mI M21 a29 3) - x4)))) ((((mI M21 a29 2) - x5) / x7)) ((1 : Int32))) else b_X7_haulFrom_133 M21 x0 x1 x2 x3 x4 x5 x6 x7)))
noncomputable def lp_X7_haulFrom_17 (M : gMem) (x0 : Nat) (x1 : Option Nat) (x2 : Option Nat) (x3 : Int32) (x4 : Int32) (x5 : Int32) (x6 : Int32) (x7 : Int32) : Option (Unit × gMem) :=
  lp (fun (q : gMem × Int32 × Int32 × Int32 × Int32) => bb_X7_haulFrom_17 q.1 x0 x1 x2 x3 q.2.1 q.2.2.1 q.2.2.2.1 q.2.2.2.2) (M, x4, x5, x6, x7)
noncomputable def b_X7_haulFrom_0 (M : gMem) (x0 : Nat) (x1 : Option Nat) (x2 : Option Nat) : Option (Unit × gMem) :=
  dr x2 fun a32 => ck (mT M a32 = 1) <| lp_X7_haulFrom_17 M x0 x1 x2 ((mI M a32 1)) ((0 : Int32)) ((0 : Int32)) ((0 : Int32)) ((5 : Int32))
noncomputable def f_X7_haulFrom (M : gMem) (x0 : Nat) (x1 : Option Nat) (x2 : Option Nat) : Option (Unit × gMem) :=
  b_X7_haulFrom_0 M x0 x1 x2
set_option maxHeartbeats 4000000 in
set_option maxRecDepth 100000 in
theorem t_X7_haulFrom_148 (X : gX p s m args meth c D cy B (gSt Z B H0) RX7 cX7_haulFrom wsX7_haulFrom 10) (hr : meth.sig.returnType = none) {Q : State → Prop} : ∀ (M : gMem)  (z : Unit × gMem), b_X7_haulFrom_148 M  = some z → (fun (r : Unit × gMem) => Q = gMQ below D cy B H0 args s 0 0 none r.2) z → gGo p l e rX7_haulFrom s m args below meth c D cy B H0 10 0 0 Q 148 [] [] M := sorry

set_option maxHeartbeats 4000000 in
set_option maxRecDepth 100000 in
theorem t_X7_haulFrom_133 (X : gX p s m args meth c D cy B (gSt Z B H0) RX7 cX7_haulFrom wsX7_haulFrom 10) (hr : meth.sig.returnType = none) {Q : State → Prop} : ∀ (M : gMem) (x0 : Nat) (x1 : Option Nat) (x2 : Option Nat) (x3 : Int32) (x4 : Int32) (x5 : Int32) (x6 : Int32) (x7 : Int32) (z : (gMem × Int32 × Int32 × Int32 × Int32) ⊕ (Unit × gMem)), b_X7_haulFrom_133 M x0 x1 x2 x3 x4 x5 x6 x7 = some z → (Sum.elim (fun (q : gMem × Int32 × Int32 × Int32 × Int32) => gGo p l e rX7_haulFrom s m args below meth c D cy B H0 10 0 0 Q 17 [(0, vR (some x0)), (1, vR x1), (2, vR x2), (3, vI x3), (4, vI q.2.1), (5, vI q.2.2.1), (6, vI q.2.2.2.1), (7, vI q.2.2.2.2)] [] q.1) (fun (r : Unit × gMem) => Q = gMQ below D cy B H0 args s 0 0 none r.2)) z → gGo p l e rX7_haulFrom s m args below meth c D cy B H0 10 0 0 Q 133 [(0, vR (some x0)), (1, vR x1), (2, vR x2), (3, vI x3), (4, vI x4), (5, vI x5), (6, vI x6), (7, vI x7)] [] M := sorry

set_option maxHeartbeats 4000000 in
set_option maxRecDepth 100000 in
theorem t_X7_haulFrom_105 (X : gX p s m args meth c D cy B (gSt Z B H0) RX7 cX7_haulFrom wsX7_haulFrom 10) (hr : meth.sig.returnType = none) {Q : State → Prop} : ∀ (M : gMem) (x0 : Nat) (x1 : Option Nat) (x2 : Option Nat) (x3 : Int32) (x4 : Int32) (x5 : Int32) (x6 : Int32) (x7 : Int32) (s0 : Option Nat) (s1 : Int32) (s2 : Int32) (z : (gMem × Int32 × Int32 × Int32 × Int32) ⊕ (Unit × gMem)), b_X7_haulFrom_105 M x0 x1 x2 x3 x4 x5 x6 x7 s0 s1 s2 = some z → (Sum.elim (fun (q : gMem × Int32 × Int32 × Int32 × Int32) => gGo p l e rX7_haulFrom s m args below meth c D cy B H0 10 0 0 Q 17 [(0, vR (some x0)), (1, vR x1), (2, vR x2), (3, vI x3), (4, vI q.2.1), (5, vI q.2.2.1), (6, vI q.2.2.2.1), (7, vI q.2.2.2.2)] [] q.1) (fun (r : Unit × gMem) => Q = gMQ below D cy B H0 args s 0 0 none r.2)) z → gGo p l e rX7_haulFrom s m args below meth c D cy B H0 10 0 0 Q 105 [(0, vR (some x0)), (1, vR x1), (2, vR x2), (3, vI x3), (4, vI x4), (5, vI x5), (6, vI x6), (7, vI x7)] [vI s2, vI s1, vR s0] M := sorry

set_option maxHeartbeats 4000000 in
set_option maxRecDepth 100000 in
theorem t_X7_haulFrom_85 (X : gX p s m args meth c D cy B (gSt Z B H0) RX7 cX7_haulFrom wsX7_haulFrom 10) (hr : meth.sig.returnType = none) {Q : State → Prop} : ∀ (M : gMem) (x0 : Nat) (x1 : Option Nat) (x2 : Option Nat) (x3 : Int32) (x4 : Int32) (x5 : Int32) (x7 : Int32) (x8 : Int32) (x9 : Int32) (s0 : Int32) (z : (gMem × Int32 × Int32 × Int32 × Int32) ⊕ (Unit × gMem)), b_X7_haulFrom_85 M x0 x1 x2 x3 x4 x5 x7 x8 x9 s0 = some z → (Sum.elim (fun (q : gMem × Int32 × Int32 × Int32 × Int32) => gGo p l e rX7_haulFrom s m args below meth c D cy B H0 10 0 0 Q 17 [(0, vR (some x0)), (1, vR x1), (2, vR x2), (3, vI x3), (4, vI q.2.1), (5, vI q.2.2.1), (6, vI q.2.2.2.1), (7, vI q.2.2.2.2)] [] q.1) (fun (r : Unit × gMem) => Q = gMQ below D cy B H0 args s 0 0 none r.2)) z → gGo p l e rX7_haulFrom s m args below meth c D cy B H0 10 0 0 Q 85 [(0, vR (some x0)), (1, vR x1), (2, vR x2), (3, vI x3), (4, vI x4), (5, vI x5), (7, vI x7), (8, vI x8), (9, vI x9)] [vI s0] M := sorry

set_option maxHeartbeats 4000000 in
set_option maxRecDepth 100000 in
set_option maxHeartbeats 4000000 in
set_option maxRecDepth 100000 in
set_option maxHeartbeats 4000000 in
set_option maxRecDepth 100000 in
theorem t_X7_haulFrom_0 (X : gX p s m args meth c D cy B (gSt Z B H0) RX7 cX7_haulFrom wsX7_haulFrom 10) (hr : meth.sig.returnType = none) {Q : State → Prop} : ∀ (M : gMem) (x0 : Nat) (x1 : Option Nat) (x2 : Option Nat) (z : Unit × gMem), b_X7_haulFrom_0 M x0 x1 x2 = some z → (fun (r : Unit × gMem) => Q = gMQ below D cy B H0 args s 0 0 none r.2) z → gGo p l e rX7_haulFrom s m args below meth c D cy B H0 10 0 0 Q 0 [(0, vR (some x0)), (1, vR x1), (2, vR x2)] [] M := sorry

set_option maxHeartbeats 4000000 in
set_option maxRecDepth 100000 in
theorem m_X7_haulFrom (l : Launch) {D : va_G} {cy : Nat → ClassId} {B : Nat} {H0 : Heap} {Z : Nat → Nat} {M M1 : gMem} {x0 : Nat} {x1 : Option Nat} {x2 : Option Nat} {r : Unit} (hf : f_X7_haulFrom M x0 x1 x2 = some (r, M1)) : Met l yX7_haulFrom wsX7_haulFrom rX7_haulFrom (va_Pc (Value.ref x0 :: List.map gv [vR x1, vR x2]) (gPre D cy B H0 (gSt Z B H0) M)) (gQ D cy B H0 none M1) 0 0 (gA B) := sorry

/-! ## TideLots$Shore.landHaul(LTideLots$Ground;LTideLots$Fisher;)I -/
theorem i_X7_landHaul_X1 : ∀ w ∈ u_ws RX1 TX1 11, w ∈ wsX7_landHaul := sorry

theorem i_X7_landHaul_X3 : ∀ w ∈ u_ws RX3 TX3 4, w ∈ wsX7_landHaul := sorry

theorem i_X7_landHaul_X7 : ∀ w ∈ u_ws RX7 TX7 17, w ∈ wsX7_landHaul := sorry

abbrev rX7_landHaul : Room := { frames := 0, cells := 0, slots := 0, locals := 0 }
noncomputable def b_X7_landHaul_66 (M : gMem) (x0 : Nat) (x1 : Option Nat) (x2 : Option Nat) (x3 : Int32) (x4 : Int32) : Option ((gMem × Int32 × Int32) ⊕ (Int32 × gMem)) :=
  some (.inl (M, x3, (x4 + (1 : Int32))))
noncomputable def bb_X7_landHaul_5 (M : gMem) (x0 : Nat) (x1 : Option Nat) (x2 : Option Nat) (x3 : Int32) (x4 : Int32) : Option ((gMem × Int32 × Int32) ⊕ (Int32 × gMem)) :=
  (if (5 : Int32) < x4 then dr x2 fun a1 => ck (mT M a1 = 1) <| lw (wI M a1 8 (((mI M a1 8) + x3))) fun M3 => dr x1 fun a5 => ck (mT M3 a5 = 3) <| lw (wI M3 a5 2 (((mI M3 a5 2) + x3))) fun M7 => oI (some (x3, M7)) else dr x2 fun a11 => ck (mT M a11 = 1) <| (if x4 < (mI M a11 1) then b_X7_landHaul_66 M x0 x1 x2 x3 x4 else ck (mT M x0 = 7) <| dr ((mR M x0 13)) fun a14 => ck (mT M a14 = 20) <| ck (inb x4 (mL M a14)) <| ck (inb x4 (mL M a14)) <| lw (wI M a11 5 (((mI M a11 5) + ((mI M a14 x4.toNatClampNeg) * x4)))) fun M18 => dr x1 fun a22 => ck (mT M18 a22 = 3) <| dr ((mR M18 a22 3)) fun a24 => ck (mT M18 a24 = 20) <| ck (inb x4 (mL M18 a24)) <| dr ((mR M18 x0 13)) fun a27 => ck (mT M18 a27 = 20) <| ck (inb x4 (mL M18 a27)) <| ck (inb x4 (mL M18 a24)) <| lw (wI M18 a24 x4.toNatClampNeg (((mI M18 a24 x4.toNatClampNeg) - (mI M18 a27 x4.toNatClampNeg)))) fun M31 => b_X7_landHaul_66 M31 x0 x1 x2 ((x3 + (mI M a14 x4.toNatClampNeg))) x4))
noncomputable def lp_X7_landHaul_5 (M : gMem) (x0 : Nat) (x1 : Option Nat) (x2 : Option Nat) (x3 : Int32) (x4 : Int32) : Option (Int32 × gMem) :=
  lp (fun (q : gMem × Int32 × Int32) => bb_X7_landHaul_5 q.1 x0 x1 x2 q.2.1 q.2.2) (M, x3, x4)
noncomputable def b_X7_landHaul_0 (M : gMem) (x0 : Nat) (x1 : Option Nat) (x2 : Option Nat) : Option (Int32 × gMem) :=
  lp_X7_landHaul_5 M x0 x1 x2 ((0 : Int32)) ((1 : Int32))
noncomputable def f_X7_landHaul (M : gMem) (x0 : Nat) (x1 : Option Nat) (x2 : Option Nat) : Option (Int32 × gMem) :=
  b_X7_landHaul_0 M x0 x1 x2
set_option maxHeartbeats 4000000 in
set_option maxRecDepth 100000 in
theorem t_X7_landHaul_66 (X : gX p s m args meth c D cy B (gSt Z B H0) RX7 cX7_landHaul wsX7_landHaul 5) (hr : meth.sig.returnType = (some .int)) {Q : State → Prop} : ∀ (M : gMem) (x0 : Nat) (x1 : Option Nat) (x2 : Option Nat) (x3 : Int32) (x4 : Int32) (z : (gMem × Int32 × Int32) ⊕ (Int32 × gMem)), b_X7_landHaul_66 M x0 x1 x2 x3 x4 = some z → (Sum.elim (fun (q : gMem × Int32 × Int32) => gGo p l e rX7_landHaul s m args below meth c D cy B H0 5 0 0 Q 5 [(0, vR (some x0)), (1, vR x1), (2, vR x2), (3, vI q.2.1), (4, vI q.2.2)] [] q.1) (fun (r : Int32 × gMem) => Q = gMQ below D cy B H0 args s 0 0 (some (vI r.1)) r.2)) z → gGo p l e rX7_landHaul s m args below meth c D cy B H0 5 0 0 Q 66 [(0, vR (some x0)), (1, vR x1), (2, vR x2), (3, vI x3), (4, vI x4)] [] M := sorry

set_option maxHeartbeats 4000000 in
set_option maxRecDepth 100000 in
set_option maxHeartbeats 4000000 in
set_option maxRecDepth 100000 in
set_option maxHeartbeats 4000000 in
set_option maxRecDepth 100000 in
theorem t_X7_landHaul_0 (X : gX p s m args meth c D cy B (gSt Z B H0) RX7 cX7_landHaul wsX7_landHaul 5) (hr : meth.sig.returnType = (some .int)) {Q : State → Prop} : ∀ (M : gMem) (x0 : Nat) (x1 : Option Nat) (x2 : Option Nat) (z : Int32 × gMem), b_X7_landHaul_0 M x0 x1 x2 = some z → (fun (r : Int32 × gMem) => Q = gMQ below D cy B H0 args s 0 0 (some (vI r.1)) r.2) z → gGo p l e rX7_landHaul s m args below meth c D cy B H0 5 0 0 Q 0 [(0, vR (some x0)), (1, vR x1), (2, vR x2)] [] M := sorry

set_option maxHeartbeats 4000000 in
set_option maxRecDepth 100000 in
theorem m_X7_landHaul (l : Launch) {D : va_G} {cy : Nat → ClassId} {B : Nat} {H0 : Heap} {Z : Nat → Nat} {M M1 : gMem} {x0 : Nat} {x1 : Option Nat} {x2 : Option Nat} {r : Int32} (hf : f_X7_landHaul M x0 x1 x2 = some (r, M1)) : Met l yX7_landHaul wsX7_landHaul rX7_landHaul (va_Pc (Value.ref x0 :: List.map gv [vR x1, vR x2]) (gPre D cy B H0 (gSt Z B H0) M)) (gQ D cy B H0 (some (vI r)) M1) 0 0 (gA B) := sorry

/-! ## TideLots$Shore.sail(II)V -/
set_option maxRecDepth 20000 in
set_option maxRecDepth 20000 in
theorem gX7_sail_X7_haulFrom : GoodIn wsX7_sail (wsV RX7 199 RX7 yX7_haulFrom wsX7_haulFrom) := sorry

set_option maxRecDepth 20000 in
set_option maxRecDepth 20000 in
theorem gX7_sail_X7_landHaul : GoodIn wsX7_sail (wsV RX7 203 RX7 yX7_landHaul wsX7_landHaul) := sorry

theorem i_X7_sail_X7 : ∀ w ∈ u_ws RX7 TX7 17, w ∈ wsX7_sail := sorry

theorem i_X7_sail_X1 : ∀ w ∈ u_ws RX1 TX1 11, w ∈ wsX7_sail := sorry

theorem i_X7_sail_X3 : ∀ w ∈ u_ws RX3 TX3 4, w ∈ wsX7_sail := sorry

abbrev rX7_sail : Room := { frames := 3, cells := 0, slots := 0, locals := 63 }
noncomputable def b_X7_sail_67 (M : gMem)  : Option (Unit × gMem) :=
  some ((), M)
noncomputable def b_X7_sail_0 (M : gMem) (x0 : Nat) (x1 : Int32) (x2 : Int32) : Option (Unit × gMem) :=
  ck (mT M x0 = 7) <| dr ((mR M x0 7)) fun a2 => ck (mT M a2 = 24) <| ck (inb x1 (mL M a2)) <| dr ((mR M a2 x1.toNatClampNeg)) fun a5 => ck (mT M a5 = 1) <| lw (wI M a5 6 x2) fun M7 => lw (wI M7 a5 5 ((0 : Int32))) fun M11 => (if x2 < 0 then b_X7_sail_67 M11  else dr ((mR M11 x0 6)) fun a15 => ck (mT M11 a15 = 23) <| ck (inb x2 (mL M11 a15)) <| dr ((mR M11 a15 x2.toNatClampNeg)) fun a18 => ck (mT M11 a18 = 3) <| lw (wI M11 a18 1 (((mI M11 a18 1) + (1 : Int32)))) fun M20 => bd (f_X7_haulFrom M20 x0 ((mR M11 a15 x2.toNatClampNeg)) ((mR M a2 x1.toNatClampNeg))) fun _ M26 => ck (mT M26 x0 = 7) <| bd (f_X7_landHaul M26 x0 ((mR M11 a15 x2.toNatClampNeg)) ((mR M a2 x1.toNatClampNeg))) fun r27 M27 => ck (mT M27 a5 = 1) <| dr ((mR M27 a5 10)) fun a30 => ck (mT M27 a30 = 20) <| ck (inb x2 (mL M27 a30)) <| ck (inb x2 (mL M27 a30)) <| lw (wI M27 a30 x2.toNatClampNeg (((mI M27 a30 x2.toNatClampNeg) + r27))) fun M34 => b_X7_sail_67 M34 )
noncomputable def f_X7_sail (M : gMem) (x0 : Nat) (x1 : Int32) (x2 : Int32) : Option (Unit × gMem) :=
  b_X7_sail_0 M x0 x1 x2
set_option maxHeartbeats 4000000 in
set_option maxRecDepth 100000 in
theorem t_X7_sail_67 (X : gX p s m args meth c D cy B (gSt Z B H0) RX7 cX7_sail wsX7_sail 6) (hr : meth.sig.returnType = none) {Q : State → Prop} : ∀ (M : gMem)  (z : Unit × gMem), b_X7_sail_67 M  = some z → (fun (r : Unit × gMem) => Q = gMQ below D cy B H0 args s 0 0 none r.2) z → gGo p l e rX7_sail s m args below meth c D cy B H0 6 0 0 Q 67 [] [] M := sorry

set_option maxHeartbeats 4000000 in
set_option maxRecDepth 100000 in
theorem t_X7_sail_0 (X : gX p s m args meth c D cy B (gSt Z B H0) RX7 cX7_sail wsX7_sail 6) (hr : meth.sig.returnType = none) {Q : State → Prop} : ∀ (M : gMem) (x0 : Nat) (x1 : Int32) (x2 : Int32) (z : Unit × gMem), b_X7_sail_0 M x0 x1 x2 = some z → (fun (r : Unit × gMem) => Q = gMQ below D cy B H0 args s 0 0 none r.2) z → gGo p l e rX7_sail s m args below meth c D cy B H0 6 0 0 Q 0 [(0, vR (some x0)), (1, vI x1), (2, vI x2)] [] M := sorry

set_option maxHeartbeats 4000000 in
set_option maxRecDepth 100000 in
theorem m_X7_sail (l : Launch) {D : va_G} {cy : Nat → ClassId} {B : Nat} {H0 : Heap} {Z : Nat → Nat} {M M1 : gMem} {x0 : Nat} {x1 : Int32} {x2 : Int32} {r : Unit} (hf : f_X7_sail M x0 x1 x2 = some (r, M1)) : Met l yX7_sail wsX7_sail rX7_sail (va_Pc (Value.ref x0 :: List.map gv [vI x1, vI x2]) (gPre D cy B H0 (gSt Z B H0) M)) (gQ D cy B H0 none M1) 0 0 (gA B) := sorry

/-! ## TideLots$Shore.split(LTideLots$Pact;)V -/
set_option maxRecDepth 20000 in
set_option maxRecDepth 20000 in
theorem gX7_split_X5_splits : GoodIn wsX7_split (wsV RX7 226 RX5 yX5_splits wsX5_splits) := sorry

theorem i_X7_split_X5 : ∀ w ∈ u_ws RX5 TX5 8, w ∈ wsX7_split := sorry

theorem i_X7_split_X7 : ∀ w ∈ u_ws RX7 TX7 17, w ∈ wsX7_split := sorry

theorem i_X7_split_X1 : ∀ w ∈ u_ws RX1 TX1 11, w ∈ wsX7_split := sorry

abbrev rX7_split : Room := { frames := 1, cells := 0, slots := 0, locals := 20 }
noncomputable def b_X7_split_212 (M : gMem) (s0 : Option Nat) (s1 : Int32) (s2 : Int32) : Option (Unit × gMem) :=
  dr s0 fun a1 => ck (mT M a1 = 5) <| lw (wI M a1 7 ((s1 + s2))) fun M3 => some ((), M3)
noncomputable def bb_X7_split_113 (M : gMem) (x0 : Nat) (x1 : Option Nat) (x2 : Int32) (x3 : Int32) (x4 : Int32) (x5 : Int32) : Option ((gMem × Int32) ⊕ (Unit × gMem)) :=
  dr x1 fun a5 => ck (mT M a5 = 5) <| (if (mI M a5 3) ≤ x5 then ck (mT M x0 = 7) <| dr ((mR M a5 4)) fun a8 => ck (mT M a8 = 20) <| ck (inb (0 : Int32) (mL M a8)) <| dr ((mR M x0 7)) fun a11 => ck (mT M a11 = 24) <| ck (inb (mI M a8 ((0 : Int32)).toNatClampNeg) (mL M a11)) <| dr ((mR M a11 ((mI M a8 ((0 : Int32)).toNatClampNeg)).toNatClampNeg)) fun a14 => ck (mT M a14 = 1) <| lw (wI M a14 5 (((mI M a14 5) + (x2 - (x4 * (mI M a5 3)))))) fun M16 => lw (wI M16 a5 5 (((mI M16 a5 5) + x2))) fun M22 => lw (wI M22 a5 6 (((mI M22 a5 6) + x3))) fun M28 => (if x3 ≤ 0 then oI (b_X7_split_212 M28 x1 ((mI M28 a5 7)) ((0 : Int32))) else oI (b_X7_split_212 M28 x1 ((mI M28 a5 7)) ((1 : Int32)))) else ck (mT M x0 = 7) <| dr ((mR M a5 4)) fun a37 => ck (mT M a37 = 20) <| ck (inb x5 (mL M a37)) <| dr ((mR M x0 7)) fun a40 => ck (mT M a40 = 24) <| ck (inb (mI M a37 x5.toNatClampNeg) (mL M a40)) <| dr ((mR M a40 ((mI M a37 x5.toNatClampNeg)).toNatClampNeg)) fun a43 => ck (mT M a43 = 1) <| lw (wI M a43 5 (((mI M a43 5) + x4))) fun M45 => some (.inl (M45, (x5 + (1 : Int32)))))
noncomputable def lp_X7_split_113 (M : gMem) (x0 : Nat) (x1 : Option Nat) (x2 : Int32) (x3 : Int32) (x4 : Int32) (x5 : Int32) : Option (Unit × gMem) :=
  lp (fun (q : gMem × Int32) => bb_X7_split_113 q.1 x0 x1 x2 x3 x4 q.2) (M, x5)
noncomputable def b_X7_split_69 (M : gMem) (x0 : Nat) (x1 : Option Nat) (x2 : Int32) (x3 : Int32) (x4 : Int32) (x5 : Option Nat) (s0 : Int32) : Option ((gMem × Int32 × Int32 × Int32) ⊕ (Unit × gMem)) :=
  dr x5 fun a51 => ck (mT M a51 = 1) <| lw (wI M a51 5 (((mI M a51 5) - s0))) fun M53 => some (.inl (M53, (x2 + s0), (x3 + (mI M53 a51 5)), (x4 + (1 : Int32))))
noncomputable def bb_X7_split_23 (M : gMem) (x0 : Nat) (x1 : Option Nat) (x2 : Int32) (x3 : Int32) (x4 : Int32) : Option ((gMem × Int32 × Int32 × Int32) ⊕ (Unit × gMem)) :=
  dr x1 fun a55 => ck (mT M a55 = 5) <| (if (mI M a55 3) ≤ x4 then ck (¬ (mI M a55 3) = 0) <| oI (lp_X7_split_113 M x0 x1 x2 x3 ((x2 / (mI M a55 3))) ((0 : Int32))) else ck (mT M x0 = 7) <| dr ((mR M a55 4)) fun a60 => ck (mT M a60 = 20) <| ck (inb x4 (mL M a60)) <| dr ((mR M x0 7)) fun a63 => ck (mT M a63 = 24) <| ck (inb (mI M a60 x4.toNatClampNeg) (mL M a63)) <| dr ((mR M a63 ((mI M a60 x4.toNatClampNeg)).toNatClampNeg)) fun a66 => ck (mT M a66 = 1) <| (if (mI M a66 9) = 0 then b_X7_split_69 M x0 x1 x2 x3 x4 ((mR M a63 ((mI M a60 x4.toNatClampNeg)).toNatClampNeg)) ((mI M a66 5)) else b_X7_split_69 M x0 x1 x2 x3 x4 ((mR M a63 ((mI M a60 x4.toNatClampNeg)).toNatClampNeg)) (((mI M a66 5) / (2 : Int32)))))
noncomputable def lp_X7_split_23 (M : gMem) (x0 : Nat) (x1 : Option Nat) (x2 : Int32) (x3 : Int32) (x4 : Int32) : Option (Unit × gMem) :=
  lp (fun (q : gMem × Int32 × Int32 × Int32) => bb_X7_split_23 q.1 x0 x1 q.2.1 q.2.2.1 q.2.2.2) (M, x2, x3, x4)
noncomputable def b_X7_split_15 (M : gMem)  : Option (Unit × gMem) :=
  some ((), M)
noncomputable def b_X7_split_0 (M : gMem) (x0 : Nat) (x1 : Option Nat) : Option (Unit × gMem) :=
  dr x1 fun a69 => ck (mT M a69 = 5) <| bd (f_X5_splits M a69) fun r68 M68 => (if r68 = 0 then b_X7_split_15 M68  else ck (mT M68 a69 = 5) <| (if (1 : Int32) ≤ (mI M68 a69 3) then lp_X7_split_23 M68 x0 x1 ((0 : Int32)) ((0 : Int32)) ((0 : Int32)) else b_X7_split_15 M68 ))
noncomputable def f_X7_split (M : gMem) (x0 : Nat) (x1 : Option Nat) : Option (Unit × gMem) :=
  b_X7_split_0 M x0 x1
set_option maxHeartbeats 4000000 in
set_option maxRecDepth 100000 in
theorem t_X7_split_212 (X : gX p s m args meth c D cy B (gSt Z B H0) RX7 cX7_split wsX7_split 7) (hr : meth.sig.returnType = none) {Q : State → Prop} : ∀ (M : gMem) (s0 : Option Nat) (s1 : Int32) (s2 : Int32) (z : Unit × gMem), b_X7_split_212 M s0 s1 s2 = some z → (fun (r : Unit × gMem) => Q = gMQ below D cy B H0 args s 0 0 none r.2) z → gGo p l e rX7_split s m args below meth c D cy B H0 7 0 0 Q 212 [] [vI s2, vI s1, vR s0] M := sorry

set_option maxHeartbeats 4000000 in
set_option maxRecDepth 100000 in
set_option maxHeartbeats 4000000 in
set_option maxRecDepth 100000 in
set_option maxHeartbeats 4000000 in
set_option maxRecDepth 100000 in
theorem t_X7_split_69 (X : gX p s m args meth c D cy B (gSt Z B H0) RX7 cX7_split wsX7_split 7) (hr : meth.sig.returnType = none) {Q : State → Prop} : ∀ (M : gMem) (x0 : Nat) (x1 : Option Nat) (x2 : Int32) (x3 : Int32) (x4 : Int32) (x5 : Option Nat) (s0 : Int32) (z : (gMem × Int32 × Int32 × Int32) ⊕ (Unit × gMem)), b_X7_split_69 M x0 x1 x2 x3 x4 x5 s0 = some z → (Sum.elim (fun (q : gMem × Int32 × Int32 × Int32) => gGo p l e rX7_split s m args below meth c D cy B H0 7 0 0 Q 23 [(0, vR (some x0)), (1, vR x1), (2, vI q.2.1), (3, vI q.2.2.1), (4, vI q.2.2.2)] [] q.1) (fun (r : Unit × gMem) => Q = gMQ below D cy B H0 args s 0 0 none r.2)) z → gGo p l e rX7_split s m args below meth c D cy B H0 7 0 0 Q 69 [(0, vR (some x0)), (1, vR x1), (2, vI x2), (3, vI x3), (4, vI x4), (5, vR x5)] [vI s0] M := sorry

set_option maxHeartbeats 4000000 in
set_option maxRecDepth 100000 in
set_option maxHeartbeats 4000000 in
set_option maxRecDepth 100000 in
set_option maxHeartbeats 4000000 in
set_option maxRecDepth 100000 in
theorem t_X7_split_15 (X : gX p s m args meth c D cy B (gSt Z B H0) RX7 cX7_split wsX7_split 7) (hr : meth.sig.returnType = none) {Q : State → Prop} : ∀ (M : gMem)  (z : Unit × gMem), b_X7_split_15 M  = some z → (fun (r : Unit × gMem) => Q = gMQ below D cy B H0 args s 0 0 none r.2) z → gGo p l e rX7_split s m args below meth c D cy B H0 7 0 0 Q 15 [] [] M := sorry

set_option maxHeartbeats 4000000 in
set_option maxRecDepth 100000 in
theorem t_X7_split_0 (X : gX p s m args meth c D cy B (gSt Z B H0) RX7 cX7_split wsX7_split 7) (hr : meth.sig.returnType = none) {Q : State → Prop} : ∀ (M : gMem) (x0 : Nat) (x1 : Option Nat) (z : Unit × gMem), b_X7_split_0 M x0 x1 = some z → (fun (r : Unit × gMem) => Q = gMQ below D cy B H0 args s 0 0 none r.2) z → gGo p l e rX7_split s m args below meth c D cy B H0 7 0 0 Q 0 [(0, vR (some x0)), (1, vR x1)] [] M := sorry

set_option maxHeartbeats 4000000 in
set_option maxRecDepth 100000 in
theorem m_X7_split (l : Launch) {D : va_G} {cy : Nat → ClassId} {B : Nat} {H0 : Heap} {Z : Nat → Nat} {M M1 : gMem} {x0 : Nat} {x1 : Option Nat} {r : Unit} (hf : f_X7_split M x0 x1 = some (r, M1)) : Met l yX7_split wsX7_split rX7_split (va_Pc (Value.ref x0 :: List.map gv [vR x1]) (gPre D cy B H0 (gSt Z B H0) M)) (gQ D cy B H0 none M1) 0 0 (gA B) := sorry

/-! ## TideLots$Shore.storeCatches()I -/
theorem i_X7_storeCatches_X7 : ∀ w ∈ u_ws RX7 TX7 17, w ∈ wsX7_storeCatches := sorry

theorem i_X7_storeCatches_X1 : ∀ w ∈ u_ws RX1 TX1 11, w ∈ wsX7_storeCatches := sorry

abbrev rX7_storeCatches : Room := { frames := 0, cells := 0, slots := 0, locals := 0 }
noncomputable def bb_X7_storeCatches_4 (M : gMem) (x0 : Nat) (x1 : Int32) (x2 : Int32) : Option ((gMem × Int32 × Int32) ⊕ (Int32 × gMem)) :=
  ck (mT M x0 = 7) <| (if (mI M x0 3) ≤ x2 then oI (some (x1, M)) else dr ((mR M x0 7)) fun a3 => ck (mT M a3 = 24) <| ck (inb x2 (mL M a3)) <| dr ((mR M a3 x2.toNatClampNeg)) fun a6 => ck (mT M a6 = 1) <| ck (inb x2 (mL M a3)) <| lw (wI M a6 4 (((mI M a6 4) + (mI M a6 5)))) fun M9 => dr ((mR M9 x0 7)) fun a13 => ck (mT M9 a13 = 24) <| ck (inb x2 (mL M9 a13)) <| dr ((mR M9 a13 x2.toNatClampNeg)) fun a16 => ck (mT M9 a16 = 1) <| some (.inl (M9, (x1 + (mI M9 a16 5)), (x2 + (1 : Int32)))))
noncomputable def lp_X7_storeCatches_4 (M : gMem) (x0 : Nat) (x1 : Int32) (x2 : Int32) : Option (Int32 × gMem) :=
  lp (fun (q : gMem × Int32 × Int32) => bb_X7_storeCatches_4 q.1 x0 q.2.1 q.2.2) (M, x1, x2)
noncomputable def b_X7_storeCatches_0 (M : gMem) (x0 : Nat) : Option (Int32 × gMem) :=
  lp_X7_storeCatches_4 M x0 ((0 : Int32)) ((0 : Int32))
noncomputable def f_X7_storeCatches (M : gMem) (x0 : Nat) : Option (Int32 × gMem) :=
  b_X7_storeCatches_0 M x0
set_option maxHeartbeats 4000000 in
set_option maxRecDepth 100000 in
set_option maxHeartbeats 4000000 in
set_option maxRecDepth 100000 in
set_option maxHeartbeats 4000000 in
set_option maxRecDepth 100000 in
theorem t_X7_storeCatches_0 (X : gX p s m args meth c D cy B (gSt Z B H0) RX7 cX7_storeCatches wsX7_storeCatches 3) (hr : meth.sig.returnType = (some .int)) {Q : State → Prop} : ∀ (M : gMem) (x0 : Nat) (z : Int32 × gMem), b_X7_storeCatches_0 M x0 = some z → (fun (r : Int32 × gMem) => Q = gMQ below D cy B H0 args s 0 0 (some (vI r.1)) r.2) z → gGo p l e rX7_storeCatches s m args below meth c D cy B H0 3 0 0 Q 0 [(0, vR (some x0))] [] M := sorry

set_option maxHeartbeats 4000000 in
set_option maxRecDepth 100000 in
theorem m_X7_storeCatches (l : Launch) {D : va_G} {cy : Nat → ClassId} {B : Nat} {H0 : Heap} {Z : Nat → Nat} {M M1 : gMem} {x0 : Nat} {r : Int32} (hf : f_X7_storeCatches M x0 = some (r, M1)) : Met l yX7_storeCatches wsX7_storeCatches rX7_storeCatches (va_Pc (Value.ref x0 :: List.map gv []) (gPre D cy B H0 (gSt Z B H0) M)) (gQ D cy B H0 (some (vI r)) M1) 0 0 (gA B) := sorry

/-! ## TideLots$Shore.passTides(I)I -/
set_option maxRecDepth 20000 in
set_option maxRecDepth 20000 in
theorem gX7_passTides_X3_grow : GoodIn wsX7_passTides (wsV RX7 153 RX3 yX3_grow wsX3_grow) := sorry

set_option maxRecDepth 20000 in
set_option maxRecDepth 20000 in
theorem gX7_passTides_X7_storeCatches : GoodIn wsX7_passTides (wsV RX7 150 RX7 yX7_storeCatches wsX7_storeCatches) := sorry

set_option maxRecDepth 20000 in
set_option maxRecDepth 20000 in
theorem gX7_passTides_X7_split : GoodIn wsX7_passTides (wsV RX7 147 RX7 yX7_split wsX7_split) := sorry

set_option maxRecDepth 20000 in
set_option maxRecDepth 20000 in
theorem gX7_passTides_X7_firstGo : GoodIn wsX7_passTides (wsV RX7 139 RX7 yX7_firstGo wsX7_firstGo) := sorry

set_option maxRecDepth 20000 in
set_option maxRecDepth 20000 in
theorem gX7_passTides_X7_sail : GoodIn wsX7_passTides (wsV RX7 143 RX7 yX7_sail wsX7_sail) := sorry

set_option maxRecDepth 20000 in
set_option maxRecDepth 20000 in
theorem gX7_passTides_X7_drawLots : GoodIn wsX7_passTides (wsV RX7 133 RX7 yX7_drawLots wsX7_drawLots) := sorry

set_option maxRecDepth 20000 in
set_option maxRecDepth 20000 in
theorem gX7_passTides_X7_callBoatsHome : GoodIn wsX7_passTides (wsV RX7 136 RX7 yX7_callBoatsHome wsX7_callBoatsHome) := sorry

theorem i_X7_passTides_X7 : ∀ w ∈ u_ws RX7 TX7 17, w ∈ wsX7_passTides := sorry

abbrev rX7_passTides : Room := { frames := 5, cells := 0, slots := 0, locals := 117 }
noncomputable def bb_X7_passTides_100 (Z : Nat → Nat) (M : gMem) (x0 : Nat) (x1 : Int32) (x2 : Int32) (x3 : Int32) (x4 : Int32) : Option ((gMem × Int32) ⊕ ((gMem × Int32 × Int32) ⊕ (Int32 × gMem))) :=
  ck (mT M x0 = 7) <| (if (mI M x0 2) ≤ x4 then lw (wI M x0 0 (((mI M x0 0) + (1 : Int32)))) fun M2 => oI (some (.inl (M2, x2, (x3 + (1 : Int32))))) else dr ((mR M x0 6)) fun a5 => ck (mT M a5 = 23) <| ck (inb x4 (mL M a5)) <| dr ((mR M a5 x4.toNatClampNeg)) fun a9 => ck (mT M a9 = 3) <| bd (f_X3_grow M a9) fun _ M8 => some (.inl (M8, (x4 + (1 : Int32)))))
noncomputable def lp_X7_passTides_100 (Z : Nat → Nat) (M : gMem) (x0 : Nat) (x1 : Int32) (x2 : Int32) (x3 : Int32) (x4 : Int32) : Option ((gMem × Int32 × Int32) ⊕ (Int32 × gMem)) :=
  lp (fun (q : gMem × Int32) => bb_X7_passTides_100 Z q.1 x0 x1 x2 x3 q.2) (M, x4)
noncomputable def bb_X7_passTides_64 (Z : Nat → Nat) (M : gMem) (x0 : Nat) (x1 : Int32) (x2 : Int32) (x3 : Int32) (x4 : Int32) : Option ((gMem × Int32) ⊕ ((gMem × Int32 × Int32) ⊕ (Int32 × gMem))) :=
  ck (mT M x0 = 7) <| (if (mI M x0 5) ≤ x4 then bd (f_X7_storeCatches M x0) fun r12 M12 => oI (lp_X7_passTides_100 Z M12 x0 x1 ((x2 + r12)) x3 ((0 : Int32))) else dr ((mR M x0 9)) fun a14 => ck (mT M a14 = 26) <| ck (inb x4 (mL M a14)) <| bd (f_X7_split M x0 ((mR M a14 x4.toNatClampNeg))) fun _ M17 => some (.inl (M17, (x4 + (1 : Int32)))))
noncomputable def lp_X7_passTides_64 (Z : Nat → Nat) (M : gMem) (x0 : Nat) (x1 : Int32) (x2 : Int32) (x3 : Int32) (x4 : Int32) : Option ((gMem × Int32 × Int32) ⊕ (Int32 × gMem)) :=
  lp (fun (q : gMem × Int32) => bb_X7_passTides_64 Z q.1 x0 x1 x2 x3 q.2) (M, x4)
noncomputable def bb_X7_passTides_24 (Z : Nat → Nat) (M : gMem) (x0 : Nat) (x1 : Int32) (x2 : Int32) (x3 : Int32) (x4 : Int32) : Option ((gMem × Int32) ⊕ ((gMem × Int32 × Int32) ⊕ (Int32 × gMem))) :=
  ck (mT M x0 = 7) <| (if (mI M x0 3) ≤ x4 then oI (lp_X7_passTides_64 Z M x0 x1 x2 x3 ((0 : Int32))) else dr ((mR M x0 11)) fun a20 => ck (mT M a20 = 20) <| ck (inb x4 (mL M a20)) <| ck (inb x4 (mL M a20)) <| bd (f_X7_firstGo Z M x0 ((mI M a20 x4.toNatClampNeg))) fun r24 M24 => ck (mT M24 x0 = 7) <| bd (f_X7_sail M24 x0 ((mI M a20 x4.toNatClampNeg)) r24) fun _ M25 => some (.inl (M25, (x4 + (1 : Int32)))))
noncomputable def lp_X7_passTides_24 (Z : Nat → Nat) (M : gMem) (x0 : Nat) (x1 : Int32) (x2 : Int32) (x3 : Int32) (x4 : Int32) : Option ((gMem × Int32 × Int32) ⊕ (Int32 × gMem)) :=
  lp (fun (q : gMem × Int32) => bb_X7_passTides_24 Z q.1 x0 x1 x2 x3 q.2) (M, x4)
noncomputable def bb_X7_passTides_4 (Z : Nat → Nat) (M : gMem) (x0 : Nat) (x1 : Int32) (x2 : Int32) (x3 : Int32) : Option ((gMem × Int32 × Int32) ⊕ (Int32 × gMem)) :=
  (if x1 ≤ x3 then oI (some (x2, M)) else ck (mT M x0 = 7) <| bd (f_X7_drawLots M x0) fun r28 M28 => ck (mT M28 x0 = 7) <| lw (wI M28 x0 1 r28) fun M31 => bd (f_X7_callBoatsHome M31 x0) fun _ M33 => lp_X7_passTides_24 Z M33 x0 x1 x2 x3 ((0 : Int32)))
noncomputable def lp_X7_passTides_4 (Z : Nat → Nat) (M : gMem) (x0 : Nat) (x1 : Int32) (x2 : Int32) (x3 : Int32) : Option (Int32 × gMem) :=
  lp (fun (q : gMem × Int32 × Int32) => bb_X7_passTides_4 Z q.1 x0 x1 q.2.1 q.2.2) (M, x2, x3)
noncomputable def b_X7_passTides_0 (Z : Nat → Nat) (M : gMem) (x0 : Nat) (x1 : Int32) : Option (Int32 × gMem) :=
  lp_X7_passTides_4 Z M x0 x1 ((0 : Int32)) ((0 : Int32))
noncomputable def f_X7_passTides (Z : Nat → Nat) (M : gMem) (x0 : Nat) (x1 : Int32) : Option (Int32 × gMem) :=
  b_X7_passTides_0 Z M x0 x1
set_option maxHeartbeats 4000000 in
set_option maxRecDepth 100000 in
set_option maxHeartbeats 4000000 in
set_option maxRecDepth 100000 in
set_option maxHeartbeats 4000000 in
set_option maxRecDepth 100000 in
set_option maxHeartbeats 4000000 in
set_option maxRecDepth 100000 in
set_option maxHeartbeats 4000000 in
set_option maxRecDepth 100000 in
set_option maxHeartbeats 4000000 in
set_option maxRecDepth 100000 in
set_option maxHeartbeats 4000000 in
set_option maxRecDepth 100000 in
set_option maxHeartbeats 4000000 in
set_option maxRecDepth 100000 in
set_option maxHeartbeats 4000000 in
set_option maxRecDepth 100000 in
theorem t_X7_passTides_0 (X : gX p s m args meth c D cy B (gSt Z B H0) RX7 cX7_passTides wsX7_passTides 5) (hr : meth.sig.returnType = (some .int)) {Q : State → Prop} : ∀ (M : gMem) (x0 : Nat) (x1 : Int32) (z : Int32 × gMem), b_X7_passTides_0 Z M x0 x1 = some z → (fun (r : Int32 × gMem) => Q = gMQ below D cy B H0 args s 0 0 (some (vI r.1)) r.2) z → gGo p l e rX7_passTides s m args below meth c D cy B H0 5 0 0 Q 0 [(0, vR (some x0)), (1, vI x1)] [] M := sorry

set_option maxHeartbeats 4000000 in
set_option maxRecDepth 100000 in
theorem m_X7_passTides (l : Launch) {D : va_G} {cy : Nat → ClassId} {B : Nat} {H0 : Heap} {Z : Nat → Nat} {M M1 : gMem} {x0 : Nat} {x1 : Int32} {r : Int32} (hf : f_X7_passTides Z M x0 x1 = some (r, M1)) : Met l yX7_passTides wsX7_passTides rX7_passTides (va_Pc (Value.ref x0 :: List.map gv [vI x1]) (gPre D cy B H0 (gSt Z B H0) M)) (gQ D cy B H0 (some (vI r)) M1) 0 0 (gA B) := sorry

end
