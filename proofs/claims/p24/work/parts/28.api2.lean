section
variable {p : Program} {l : Launch} {e : Env} {s : State} {m : MethodId} {args : Array Value} {below : List Frame} {meth : Method} {c : Code} {D : va_G} {cy : Nat → ClassId} {B : Nat} {H0 : Heap} {Z : Nat → Nat}
/-! ## TideLots.foresee(II)I -/
set_option maxRecDepth 20000 in
set_option maxRecDepth 20000 in
theorem gX11_foresee_X11_checkTides : GoodIn wsX11_foresee (va_wsS RX11 209 yX11_checkTides wsX11_checkTides) := sorry

set_option maxRecDepth 20000 in
set_option maxRecDepth 20000 in
theorem gX11_foresee_X11_lookAhead : GoodIn wsX11_foresee (wsV RX11 219 RX11 yX11_lookAhead wsX11_lookAhead) := sorry

set_option maxRecDepth 20000 in
set_option maxRecDepth 20000 in
theorem gX11_foresee_X7_passTides : GoodIn wsX11_foresee (wsV RX11 213 RX7 yX7_passTides wsX7_passTides) := sorry

set_option maxRecDepth 20000 in
set_option maxRecDepth 20000 in
theorem gX11_foresee_X7_allStores : GoodIn wsX11_foresee (wsV RX11 83 RX7 yX7_allStores wsX7_allStores) := sorry

set_option maxRecDepth 20000 in
set_option maxRecDepth 20000 in
theorem gX11_foresee_X7_allFish : GoodIn wsX11_foresee (wsV RX11 80 RX7 yX7_allFish wsX7_allFish) := sorry

set_option maxRecDepth 20000 in
set_option maxRecDepth 20000 in
theorem gX11_foresee_X7_storeGap : GoodIn wsX11_foresee (wsV RX11 206 RX7 yX7_storeGap wsX7_storeGap) := sorry

abbrev rX11_foresee : Room := { frames := 7, cells := 2, slots := 12, locals := 141 }
noncomputable def b_X11_foresee_15 (Z : Nat → Nat) (M : gMem)  : Option ((Nat ⊕ Int32) × gMem) :=
  some (.inl 2, M)
noncomputable def b_X11_foresee_0 (Z : Nat → Nat) (M : gMem) (x0 : Nat) (x1 : Int32) (x2 : Int32) : Option ((Nat ⊕ Int32) × gMem) :=
  bx (f_X11_checkTides M x1 ((60 : Int32))) (fun e1 M1 => some (.inl e1, M1)) fun _ M1 => (if x2 < 0 then b_X11_foresee_15 Z M1  else (if x2 ≤ (2 : Int32) then ck (mT M1 x0 = 10) <| bd (f_X11_lookAhead Z M1 x0) fun r2 M2 => dr r2 fun a5 => ck (mT M2 a5 = 7) <| bd (f_X7_passTides Z M2 a5 x1) fun r4 M4 => (if x2 = (0 : Int32) then ck (mT M4 a5 = 7) <| bd (f_X7_allStores M4 a5) fun r8 M8 => some (.inr r8, M8) else (if x2 = (1 : Int32) then ck (mT M4 a5 = 7) <| bd (f_X7_allFish M4 a5) fun r11 M11 => some (.inr r11, M11) else ck (mT M4 a5 = 7) <| bd (f_X7_storeGap M4 a5) fun r13 M13 => some (.inr r13, M13))) else b_X11_foresee_15 Z M1 ))
noncomputable def f_X11_foresee (Z : Nat → Nat) (M : gMem) (x0 : Nat) (x1 : Int32) (x2 : Int32) : Option ((Nat ⊕ Int32) × gMem) :=
  b_X11_foresee_0 Z M x0 x1 x2
set_option maxHeartbeats 4000000 in
set_option maxRecDepth 100000 in
theorem t_X11_foresee_15 (X2 : gX p s m args meth c D cy B (gSt2 Z B H0) RX11 cX11_foresee wsX11_foresee 4) (hr : meth.sig.returnType = (some .int)) (hlx : l.stackTraces = false) (hH : ∀ q : Nat, q < B → s.heap[q]? = H0[q]?) (hne : ∀ x ∈ c.exceptionTable.toList, False) (hH0 : H0.size = B) {Q : State → Prop} : ∀ (M : gMem)  (z : (Nat ⊕ Int32) × gMem), b_X11_foresee_15 Z M  = some z → (fun (r : (Nat ⊕ Int32) × gMem) => Q = gMX below D cy B H0 args s 2 12 (gzI r.1) r.2) z → gGo p l e rX11_foresee s m args below meth c D cy B H0 4 1 6 Q 15 [] [] M := sorry

set_option maxHeartbeats 4000000 in
set_option maxRecDepth 100000 in
theorem t_X11_foresee_0 (X2 : gX p s m args meth c D cy B (gSt2 Z B H0) RX11 cX11_foresee wsX11_foresee 4) (hr : meth.sig.returnType = (some .int)) (hlx : l.stackTraces = false) (hH : ∀ q : Nat, q < B → s.heap[q]? = H0[q]?) (hne : ∀ x ∈ c.exceptionTable.toList, False) (hH0 : H0.size = B) {Q : State → Prop} : ∀ (M : gMem) (x0 : Nat) (x1 : Int32) (x2 : Int32) (z : (Nat ⊕ Int32) × gMem), b_X11_foresee_0 Z M x0 x1 x2 = some z → (fun (r : (Nat ⊕ Int32) × gMem) => Q = gMX below D cy B H0 args s 2 12 (gzI r.1) r.2) z → gGo p l e rX11_foresee s m args below meth c D cy B H0 4 0 0 Q 0 [(0, vR (some x0)), (1, vI x1), (2, vI x2)] [] M := sorry

set_option maxHeartbeats 4000000 in
set_option maxRecDepth 100000 in
theorem m_X11_foresee (l : Launch) (hlx : l.stackTraces = false) {D : va_G} {cy : Nat → ClassId} {B : Nat} {H0 : Heap} {Z : Nat → Nat} {M M1 : gMem} {x0 : Nat} {x1 : Int32} {x2 : Int32} {r : (Nat ⊕ Int32)} (hH0 : H0.size = B) (hf : f_X11_foresee Z M x0 x1 x2 = some (r, M1)) : vx_Met l yX11_foresee wsX11_foresee rX11_foresee (va_Pc (Value.ref x0 :: List.map gv [vI x1, vI x2]) (gPre D cy B H0 (gSt2 Z B H0) M)) (gQX D cy B H0 (gzI r) M1) (gXC D cy B H0 (gzI r) M1) 2 12 (gA B) := sorry

/-! ## TideLots.pays(II)I -/
set_option maxRecDepth 20000 in
set_option maxRecDepth 20000 in
theorem gX11_pays_X11_checkFisher : GoodIn wsX11_pays (wsV RX11 122 RX11 yX11_checkFisher wsX11_checkFisher) := sorry

set_option maxRecDepth 20000 in
set_option maxRecDepth 20000 in
theorem gX11_pays_X11_checkTides : GoodIn wsX11_pays (va_wsS RX11 209 yX11_checkTides wsX11_checkTides) := sorry

set_option maxRecDepth 20000 in
set_option maxRecDepth 20000 in
theorem gX11_pays_X11_lookAhead : GoodIn wsX11_pays (wsV RX11 219 RX11 yX11_lookAhead wsX11_lookAhead) := sorry

set_option maxRecDepth 20000 in
set_option maxRecDepth 20000 in
theorem gX11_pays_X7_passTides : GoodIn wsX11_pays (wsV RX11 213 RX7 yX7_passTides wsX7_passTides) := sorry

theorem i_X11_pays_X7 : ∀ w ∈ u_ws RX7 TX7 17, w ∈ wsX11_pays := sorry

theorem i_X11_pays_X1 : ∀ w ∈ u_ws RX1 TX1 11, w ∈ wsX11_pays := sorry

abbrev rX11_pays : Room := { frames := 7, cells := 2, slots := 12, locals := 141 }
noncomputable def b_X11_pays_0 (Z : Nat → Nat) (M : gMem) (x0 : Nat) (x1 : Int32) (x2 : Int32) : Option ((Nat ⊕ Int32) × gMem) :=
  ck (mT M x0 = 10) <| bx (f_X11_checkFisher M x0 x1) (fun e1 M1 => some (.inl e1, M1)) fun _ M1 => bx (f_X11_checkTides M1 x2 ((60 : Int32))) (fun e3 M3 => some (.inl e3, M3)) fun _ M3 => ck (mT M3 x0 = 10) <| bd (f_X11_lookAhead Z M3 x0) fun r4 M4 => dr r4 fun a6 => ck (mT M4 a6 = 7) <| dr ((mR M4 a6 7)) fun a8 => ck (mT M4 a8 = 24) <| ck (inb x1 (mL M4 a8)) <| dr ((mR M4 a8 x1.toNatClampNeg)) fun a11 => ck (mT M4 a11 = 1) <| lw (wI M4 a11 9 ((1 : Int32))) fun M13 => bd (f_X7_passTides Z M13 a6 x2) fun r17 M17 => ck (mT M17 a6 = 7) <| dr ((mR M17 a6 7)) fun a19 => ck (mT M17 a19 = 24) <| ck (inb x1 (mL M17 a19)) <| dr ((mR M17 a19 x1.toNatClampNeg)) fun a22 => ck (mT M17 a22 = 1) <| ck (mT M17 x0 = 10) <| bd (f_X11_lookAhead Z M17 x0) fun r24 M24 => dr r24 fun a26 => ck (mT M24 a26 = 7) <| dr ((mR M24 a26 7)) fun a28 => ck (mT M24 a28 = 24) <| ck (inb x1 (mL M24 a28)) <| dr ((mR M24 a28 x1.toNatClampNeg)) fun a31 => ck (mT M24 a31 = 1) <| lw (wI M24 a31 9 ((0 : Int32))) fun M33 => bd (f_X7_passTides Z M33 a26 x2) fun r37 M37 => ck (mT M37 a26 = 7) <| dr ((mR M37 a26 7)) fun a39 => ck (mT M37 a39 = 24) <| ck (inb x1 (mL M37 a39)) <| dr ((mR M37 a39 x1.toNatClampNeg)) fun a42 => ck (mT M37 a42 = 1) <| some (.inr ((mI M17 a22 4) - (mI M37 a42 4)), M37)
noncomputable def f_X11_pays (Z : Nat → Nat) (M : gMem) (x0 : Nat) (x1 : Int32) (x2 : Int32) : Option ((Nat ⊕ Int32) × gMem) :=
  b_X11_pays_0 Z M x0 x1 x2
set_option maxHeartbeats 4000000 in
set_option maxRecDepth 100000 in
theorem t_X11_pays_0 (X2 : gX p s m args meth c D cy B (gSt2 Z B H0) RX11 cX11_pays wsX11_pays 5) (hr : meth.sig.returnType = (some .int)) (hlx : l.stackTraces = false) (hH : ∀ q : Nat, q < B → s.heap[q]? = H0[q]?) (hne : ∀ x ∈ c.exceptionTable.toList, False) (hH0 : H0.size = B) {Q : State → Prop} : ∀ (M : gMem) (x0 : Nat) (x1 : Int32) (x2 : Int32) (z : (Nat ⊕ Int32) × gMem), b_X11_pays_0 Z M x0 x1 x2 = some z → (fun (r : (Nat ⊕ Int32) × gMem) => Q = gMX below D cy B H0 args s 2 12 (gzI r.1) r.2) z → gGo p l e rX11_pays s m args below meth c D cy B H0 5 0 0 Q 0 [(0, vR (some x0)), (1, vI x1), (2, vI x2)] [] M := sorry

set_option maxHeartbeats 4000000 in
set_option maxRecDepth 100000 in
theorem m_X11_pays (l : Launch) (hlx : l.stackTraces = false) {D : va_G} {cy : Nat → ClassId} {B : Nat} {H0 : Heap} {Z : Nat → Nat} {M M1 : gMem} {x0 : Nat} {x1 : Int32} {x2 : Int32} {r : (Nat ⊕ Int32)} (hH0 : H0.size = B) (hf : f_X11_pays Z M x0 x1 x2 = some (r, M1)) : vx_Met l yX11_pays wsX11_pays rX11_pays (va_Pc (Value.ref x0 :: List.map gv [vI x1, vI x2]) (gPre D cy B H0 (gSt2 Z B H0) M)) (gQX D cy B H0 (gzI r) M1) (gXC D cy B H0 (gzI r) M1) 2 12 (gA B) := sorry

/-! ## TideLots.empty(I)I -/
set_option maxRecDepth 20000 in
set_option maxRecDepth 20000 in
theorem gX11_empty_X3_allFish : GoodIn wsX11_empty (wsV RX11 104 RX3 yX3_allFish wsX3_allFish) := sorry

set_option maxRecDepth 20000 in
set_option maxRecDepth 20000 in
theorem gX11_empty_X7_passTides : GoodIn wsX11_empty (wsV RX11 213 RX7 yX7_passTides wsX7_passTides) := sorry

set_option maxRecDepth 20000 in
set_option maxRecDepth 20000 in
theorem gX11_empty_X11_checkGround : GoodIn wsX11_empty (wsV RX11 97 RX11 yX11_checkGround wsX11_checkGround) := sorry

set_option maxRecDepth 20000 in
set_option maxRecDepth 20000 in
theorem gX11_empty_X11_lookAhead : GoodIn wsX11_empty (wsV RX11 219 RX11 yX11_lookAhead wsX11_lookAhead) := sorry

theorem i_X11_empty_X7 : ∀ w ∈ u_ws RX7 TX7 17, w ∈ wsX11_empty := sorry

abbrev rX11_empty : Room := { frames := 7, cells := 1, slots := 6, locals := 141 }
noncomputable def b_X11_empty_28 (Z : Nat → Nat) (M : gMem) (x1 : Int32) (x2 : Option Nat) (x3 : Int32) : Option ((gMem × Int32) ⊕ ((Nat ⊕ Int32) × gMem)) :=
  dr x2 fun a1 => ck (mT M a1 = 7) <| dr ((mR M a1 6)) fun a3 => ck (mT M a3 = 23) <| ck (inb x1 (mL M a3)) <| dr ((mR M a3 x1.toNatClampNeg)) fun a7 => ck (mT M a7 = 3) <| bd (f_X3_allFish M a7) fun r6 M6 => (if r6 = 0 then oI (some (.inr x3, M6)) else some (.inl (M6, (x3 + (1 : Int32)))))
noncomputable def bb_X11_empty_12 (Z : Nat → Nat) (M : gMem) (x1 : Int32) (x2 : Option Nat) (x3 : Int32) : Option ((gMem × Int32) ⊕ ((Nat ⊕ Int32) × gMem)) :=
  (if (100 : Int32) < x3 then oI (some (.inr (-1 : Int32), M)) else (if x3 ≤ 0 then b_X11_empty_28 Z M x1 x2 x3 else dr x2 fun a12 => ck (mT M a12 = 7) <| bd (f_X7_passTides Z M a12 ((1 : Int32))) fun r11 M11 => b_X11_empty_28 Z M11 x1 x2 x3))
noncomputable def lp_X11_empty_12 (Z : Nat → Nat) (M : gMem) (x1 : Int32) (x2 : Option Nat) (x3 : Int32) : Option ((Nat ⊕ Int32) × gMem) :=
  lp (fun (q : gMem × Int32) => bb_X11_empty_12 Z q.1 x1 x2 q.2) (M, x3)
noncomputable def b_X11_empty_0 (Z : Nat → Nat) (M : gMem) (x0 : Nat) (x1 : Int32) : Option ((Nat ⊕ Int32) × gMem) :=
  ck (mT M x0 = 10) <| bx (f_X11_checkGround M x0 x1) (fun e14 M14 => some (.inl e14, M14)) fun _ M14 => ck (mT M14 x0 = 10) <| bd (f_X11_lookAhead Z M14 x0) fun r16 M16 => lp_X11_empty_12 Z M16 x1 r16 ((0 : Int32))
noncomputable def f_X11_empty (Z : Nat → Nat) (M : gMem) (x0 : Nat) (x1 : Int32) : Option ((Nat ⊕ Int32) × gMem) :=
  b_X11_empty_0 Z M x0 x1
set_option maxHeartbeats 4000000 in
set_option maxRecDepth 100000 in
theorem t_X11_empty_28 (X2 : gX p s m args meth c D cy B (gSt2 Z B H0) RX11 cX11_empty wsX11_empty 4) (hr : meth.sig.returnType = (some .int)) (hlx : l.stackTraces = false) (hH : ∀ q : Nat, q < B → s.heap[q]? = H0[q]?) (hne : ∀ x ∈ c.exceptionTable.toList, False) (hH0 : H0.size = B) {Q : State → Prop} : ∀ (M : gMem) (x1 : Int32) (x2 : Option Nat) (x3 : Int32) (z : (gMem × Int32) ⊕ ((Nat ⊕ Int32) × gMem)), b_X11_empty_28 Z M x1 x2 x3 = some z → (Sum.elim (fun (q : gMem × Int32) => gGo p l e rX11_empty s m args below meth c D cy B H0 4 1 6 Q 12 [(1, vI x1), (2, vR x2), (3, vI q.2)] [] q.1) (fun (r : (Nat ⊕ Int32) × gMem) => Q = gMX below D cy B H0 args s 1 6 (gzI r.1) r.2)) z → gGo p l e rX11_empty s m args below meth c D cy B H0 4 1 6 Q 28 [(1, vI x1), (2, vR x2), (3, vI x3)] [] M := sorry

set_option maxHeartbeats 4000000 in
set_option maxRecDepth 100000 in
set_option maxHeartbeats 4000000 in
set_option maxRecDepth 100000 in
set_option maxHeartbeats 4000000 in
set_option maxRecDepth 100000 in
theorem t_X11_empty_0 (X2 : gX p s m args meth c D cy B (gSt2 Z B H0) RX11 cX11_empty wsX11_empty 4) (hr : meth.sig.returnType = (some .int)) (hlx : l.stackTraces = false) (hH : ∀ q : Nat, q < B → s.heap[q]? = H0[q]?) (hne : ∀ x ∈ c.exceptionTable.toList, False) (hH0 : H0.size = B) {Q : State → Prop} : ∀ (M : gMem) (x0 : Nat) (x1 : Int32) (z : (Nat ⊕ Int32) × gMem), b_X11_empty_0 Z M x0 x1 = some z → (fun (r : (Nat ⊕ Int32) × gMem) => Q = gMX below D cy B H0 args s 1 6 (gzI r.1) r.2) z → gGo p l e rX11_empty s m args below meth c D cy B H0 4 0 0 Q 0 [(0, vR (some x0)), (1, vI x1)] [] M := sorry

set_option maxHeartbeats 4000000 in
set_option maxRecDepth 100000 in
theorem m_X11_empty (l : Launch) (hlx : l.stackTraces = false) {D : va_G} {cy : Nat → ClassId} {B : Nat} {H0 : Heap} {Z : Nat → Nat} {M M1 : gMem} {x0 : Nat} {x1 : Int32} {r : (Nat ⊕ Int32)} (hH0 : H0.size = B) (hf : f_X11_empty Z M x0 x1 = some (r, M1)) : vx_Met l yX11_empty wsX11_empty rX11_empty (va_Pc (Value.ref x0 :: List.map gv [vI x1]) (gPre D cy B H0 (gSt2 Z B H0) M)) (gQX D cy B H0 (gzI r) M1) (gXC D cy B H0 (gzI r) M1) 1 6 (gA B) := sorry

/-! ## TideLots.advise(II)I -/
set_option maxRecDepth 20000 in
set_option maxRecDepth 20000 in
theorem gX11_advise_X11_lookAhead : GoodIn wsX11_advise (wsV RX11 219 RX11 yX11_lookAhead wsX11_lookAhead) := sorry

set_option maxRecDepth 20000 in
set_option maxRecDepth 20000 in
theorem gX11_advise_X7_passTides : GoodIn wsX11_advise (wsV RX11 213 RX7 yX7_passTides wsX7_passTides) := sorry

set_option maxRecDepth 20000 in
set_option maxRecDepth 20000 in
theorem gX11_advise_X11_checkFisher : GoodIn wsX11_advise (wsV RX11 122 RX11 yX11_checkFisher wsX11_checkFisher) := sorry

set_option maxRecDepth 20000 in
set_option maxRecDepth 20000 in
theorem gX11_advise_X11_checkTides : GoodIn wsX11_advise (va_wsS RX11 209 yX11_checkTides wsX11_checkTides) := sorry

theorem i_X11_advise_X7 : ∀ w ∈ u_ws RX7 TX7 17, w ∈ wsX11_advise := sorry

theorem i_X11_advise_X1 : ∀ w ∈ u_ws RX1 TX1 11, w ∈ wsX11_advise := sorry

abbrev rX11_advise : Room := { frames := 7, cells := 2, slots := 12, locals := 141 }
noncomputable def b_X11_advise_80 (Z : Nat → Nat) (M : gMem) (x0 : Nat) (x1 : Int32) (x2 : Int32) (x3 : Int32) (x4 : Int32) (x5 : Int32) : Option ((gMem × Int32 × Int32 × Int32) ⊕ ((Nat ⊕ Int32) × gMem)) :=
  some (.inl (M, x3, x4, (x5 + (1 : Int32))))
noncomputable def bb_X11_advise_19 (Z : Nat → Nat) (M : gMem) (x0 : Nat) (x1 : Int32) (x2 : Int32) (x3 : Int32) (x4 : Int32) (x5 : Int32) : Option ((gMem × Int32 × Int32 × Int32) ⊕ ((Nat ⊕ Int32) × gMem)) :=
  (if (5 : Int32) < x5 then oI (some (.inr x3, M)) else ck (mT M x0 = 10) <| bd (f_X11_lookAhead Z M x0) fun r2 M2 => dr r2 fun a4 => ck (mT M2 a4 = 7) <| dr ((mR M2 a4 7)) fun a6 => ck (mT M2 a6 = 24) <| ck (inb x1 (mL M2 a6)) <| dr ((mR M2 a6 x1.toNatClampNeg)) fun a9 => ck (mT M2 a9 = 1) <| lw (wI M2 a9 1 x5) fun M11 => bd (f_X7_passTides Z M11 a4 x2) fun r15 M15 => ck (mT M15 a4 = 7) <| dr ((mR M15 a4 7)) fun a17 => ck (mT M15 a17 = 24) <| ck (inb x1 (mL M15 a17)) <| dr ((mR M15 a17 x1.toNatClampNeg)) fun a20 => ck (mT M15 a20 = 1) <| (if (mI M15 a20 4) ≤ x4 then b_X11_advise_80 Z M15 x0 x1 x2 x3 x4 x5 else ck (inb x1 (mL M15 a17)) <| b_X11_advise_80 Z M15 x0 x1 x2 x5 ((mI M15 a20 4)) x5))
noncomputable def lp_X11_advise_19 (Z : Nat → Nat) (M : gMem) (x0 : Nat) (x1 : Int32) (x2 : Int32) (x3 : Int32) (x4 : Int32) (x5 : Int32) : Option ((Nat ⊕ Int32) × gMem) :=
  lp (fun (q : gMem × Int32 × Int32 × Int32) => bb_X11_advise_19 Z q.1 x0 x1 x2 q.2.1 q.2.2.1 q.2.2.2) (M, x3, x4, x5)
noncomputable def b_X11_advise_0 (Z : Nat → Nat) (M : gMem) (x0 : Nat) (x1 : Int32) (x2 : Int32) : Option ((Nat ⊕ Int32) × gMem) :=
  ck (mT M x0 = 10) <| bx (f_X11_checkFisher M x0 x1) (fun e23 M23 => some (.inl e23, M23)) fun _ M23 => bx (f_X11_checkTides M23 x2 ((40 : Int32))) (fun e25 M25 => some (.inl e25, M25)) fun _ M25 => lp_X11_advise_19 Z M25 x0 x1 x2 ((1 : Int32)) ((-1 : Int32)) ((1 : Int32))
noncomputable def f_X11_advise (Z : Nat → Nat) (M : gMem) (x0 : Nat) (x1 : Int32) (x2 : Int32) : Option ((Nat ⊕ Int32) × gMem) :=
  b_X11_advise_0 Z M x0 x1 x2
set_option maxHeartbeats 4000000 in
set_option maxRecDepth 100000 in
theorem t_X11_advise_80 (X2 : gX p s m args meth c D cy B (gSt2 Z B H0) RX11 cX11_advise wsX11_advise 7) (hr : meth.sig.returnType = (some .int)) (hlx : l.stackTraces = false) (hH : ∀ q : Nat, q < B → s.heap[q]? = H0[q]?) (hne : ∀ x ∈ c.exceptionTable.toList, False) (hH0 : H0.size = B) {Q : State → Prop} : ∀ (M : gMem) (x0 : Nat) (x1 : Int32) (x2 : Int32) (x3 : Int32) (x4 : Int32) (x5 : Int32) (z : (gMem × Int32 × Int32 × Int32) ⊕ ((Nat ⊕ Int32) × gMem)), b_X11_advise_80 Z M x0 x1 x2 x3 x4 x5 = some z → (Sum.elim (fun (q : gMem × Int32 × Int32 × Int32) => gGo p l e rX11_advise s m args below meth c D cy B H0 7 2 12 Q 19 [(0, vR (some x0)), (1, vI x1), (2, vI x2), (3, vI q.2.1), (4, vI q.2.2.1), (5, vI q.2.2.2)] [] q.1) (fun (r : (Nat ⊕ Int32) × gMem) => Q = gMX below D cy B H0 args s 2 12 (gzI r.1) r.2)) z → gGo p l e rX11_advise s m args below meth c D cy B H0 7 2 12 Q 80 [(0, vR (some x0)), (1, vI x1), (2, vI x2), (3, vI x3), (4, vI x4), (5, vI x5)] [] M := sorry

set_option maxHeartbeats 4000000 in
set_option maxRecDepth 100000 in
set_option maxHeartbeats 4000000 in
set_option maxRecDepth 100000 in
set_option maxHeartbeats 4000000 in
set_option maxRecDepth 100000 in
theorem t_X11_advise_0 (X2 : gX p s m args meth c D cy B (gSt2 Z B H0) RX11 cX11_advise wsX11_advise 7) (hr : meth.sig.returnType = (some .int)) (hlx : l.stackTraces = false) (hH : ∀ q : Nat, q < B → s.heap[q]? = H0[q]?) (hne : ∀ x ∈ c.exceptionTable.toList, False) (hH0 : H0.size = B) {Q : State → Prop} : ∀ (M : gMem) (x0 : Nat) (x1 : Int32) (x2 : Int32) (z : (Nat ⊕ Int32) × gMem), b_X11_advise_0 Z M x0 x1 x2 = some z → (fun (r : (Nat ⊕ Int32) × gMem) => Q = gMX below D cy B H0 args s 2 12 (gzI r.1) r.2) z → gGo p l e rX11_advise s m args below meth c D cy B H0 7 0 0 Q 0 [(0, vR (some x0)), (1, vI x1), (2, vI x2)] [] M := sorry

set_option maxHeartbeats 4000000 in
set_option maxRecDepth 100000 in
theorem m_X11_advise (l : Launch) (hlx : l.stackTraces = false) {D : va_G} {cy : Nat → ClassId} {B : Nat} {H0 : Heap} {Z : Nat → Nat} {M M1 : gMem} {x0 : Nat} {x1 : Int32} {x2 : Int32} {r : (Nat ⊕ Int32)} (hH0 : H0.size = B) (hf : f_X11_advise Z M x0 x1 x2 = some (r, M1)) : vx_Met l yX11_advise wsX11_advise rX11_advise (va_Pc (Value.ref x0 :: List.map gv [vI x1, vI x2]) (gPre D cy B H0 (gSt2 Z B H0) M)) (gQX D cy B H0 (gzI r) M1) (gXC D cy B H0 (gzI r) M1) 2 12 (gA B) := sorry

end
