section
variable {p : Program} {l : Launch} {e : Env} {s : State} {m : MethodId} {args : Array Value} {below : List Frame} {meth : Method} {c : Code} {D : va_G} {cy : Nat → ClassId} {B : Nat} {H0 : Heap} {Z : Nat → Nat}
/-! ## TideLots$Shore.forget()V -/
theorem i_X7_forget_X7 : ∀ w ∈ u_ws RX7 TX7 17, w ∈ wsX7_forget := sorry

theorem i_X7_forget_X9 : ∀ w ∈ u_ws RX9 TX9 4, w ∈ wsX7_forget := sorry

abbrev rX7_forget : Room := { frames := 0, cells := 0, slots := 0, locals := 0 }
noncomputable def b_X7_forget_0 (M : gMem) (x0 : Nat) : Option (Unit × gMem) :=
  ck (mT M x0 = 7) <| lw (wI M x0 2 ((0 : Int32))) fun M2 => lw (wI M2 x0 3 ((0 : Int32))) fun M4 => lw (wI M4 x0 4 ((0 : Int32))) fun M6 => lw (wI M6 x0 5 ((0 : Int32))) fun M8 => dr ((mR M8 x0 10)) fun a10 => ck (mT M8 a10 = 8) <| lw (wI M8 a10 0 ((0 : Int32))) fun M12 => some ((), M12)
noncomputable def f_X7_forget (M : gMem) (x0 : Nat) : Option (Unit × gMem) :=
  b_X7_forget_0 M x0
set_option maxHeartbeats 4000000 in
set_option maxRecDepth 100000 in
theorem t_X7_forget_0 (X : gX p s m args meth c D cy B (gSt Z B H0) RX7 cX7_forget wsX7_forget 1) (hr : meth.sig.returnType = none) {Q : State → Prop} : ∀ (M : gMem) (x0 : Nat) (z : Unit × gMem), b_X7_forget_0 M x0 = some z → (fun (r : Unit × gMem) => Q = gMQ below D cy B H0 args s 0 0 none r.2) z → gGo p l e rX7_forget s m args below meth c D cy B H0 1 0 0 Q 0 [(0, vR (some x0))] [] M := sorry

set_option maxHeartbeats 4000000 in
set_option maxRecDepth 100000 in
theorem m_X7_forget (l : Launch) {D : va_G} {cy : Nat → ClassId} {B : Nat} {H0 : Heap} {Z : Nat → Nat} {M M1 : gMem} {x0 : Nat} {r : Unit} (hf : f_X7_forget M x0 = some (r, M1)) : Met l yX7_forget wsX7_forget rX7_forget (va_Pc (Value.ref x0 :: List.map gv []) (gPre D cy B H0 (gSt Z B H0) M)) (gQ D cy B H0 none M1) 0 0 (gA B) := sorry

/-! ## TideLots$Shore.nextGround()LTideLots$Ground; -/
set_option maxRecDepth 20000 in
set_option maxRecDepth 20000 in
theorem gX7_nextGround_X3_copyFrom : GoodIn wsX7_nextGround (wsV RX7 93 RX3 yX3_copyFrom wsX3_copyFrom) := sorry

theorem i_X7_nextGround_X7 : ∀ w ∈ u_ws RX7 TX7 17, w ∈ wsX7_nextGround := sorry

abbrev rX7_nextGround : Room := { frames := 1, cells := 0, slots := 0, locals := 22 }
noncomputable def b_X7_nextGround_0 (M : gMem) (x0 : Nat) : Option (Option Nat × gMem) :=
  ck (mT M x0 = 7) <| lw (wI M x0 2 ((imin (((mI M x0 2) + (1 : Int32))) ((8 : Int32))))) fun M2 => dr ((mR M2 x0 6)) fun a4 => ck (mT M2 a4 = 23) <| ck (inb ((mI M2 x0 2) - (1 : Int32)) (mL M2 a4)) <| dr ((mR M2 a4 (((mI M2 x0 2) - (1 : Int32))).toNatClampNeg)) fun a8 => ck (mT M2 a8 = 3) <| bd (f_X3_copyFrom M2 a8 ((mR M2 x0 14))) fun _ M7 => some ((mR M2 a4 (((mI M2 x0 2) - (1 : Int32))).toNatClampNeg), M7)
noncomputable def f_X7_nextGround (M : gMem) (x0 : Nat) : Option (Option Nat × gMem) :=
  b_X7_nextGround_0 M x0
set_option maxHeartbeats 4000000 in
set_option maxRecDepth 100000 in
theorem t_X7_nextGround_0 (X : gX p s m args meth c D cy B (gSt Z B H0) RX7 cX7_nextGround wsX7_nextGround 2) (hr : meth.sig.returnType = (some (.object "TideLots$Ground"))) {Q : State → Prop} : ∀ (M : gMem) (x0 : Nat) (z : Option Nat × gMem), b_X7_nextGround_0 M x0 = some z → (fun (r : Option Nat × gMem) => Q = gMQ below D cy B H0 args s 0 0 (some (vR r.1)) r.2) z → gGo p l e rX7_nextGround s m args below meth c D cy B H0 2 0 0 Q 0 [(0, vR (some x0))] [] M := sorry

set_option maxHeartbeats 4000000 in
set_option maxRecDepth 100000 in
theorem m_X7_nextGround (l : Launch) {D : va_G} {cy : Nat → ClassId} {B : Nat} {H0 : Heap} {Z : Nat → Nat} {M M1 : gMem} {x0 : Nat} {r : Option Nat} (hf : f_X7_nextGround M x0 = some (r, M1)) : Met l yX7_nextGround wsX7_nextGround rX7_nextGround (va_Pc (Value.ref x0 :: List.map gv []) (gPre D cy B H0 (gSt Z B H0) M)) (gQ D cy B H0 (some (vR r)) M1) 0 0 (gA B) := sorry

/-! ## TideLots$Shore.nextFisher()LTideLots$Fisher; -/
set_option maxRecDepth 20000 in
set_option maxRecDepth 20000 in
theorem gX7_nextFisher_X1_copyFrom : GoodIn wsX7_nextFisher (wsV RX7 97 RX1 yX1_copyFrom wsX1_copyFrom) := sorry

theorem i_X7_nextFisher_X7 : ∀ w ∈ u_ws RX7 TX7 17, w ∈ wsX7_nextFisher := sorry

abbrev rX7_nextFisher : Room := { frames := 1, cells := 0, slots := 0, locals := 22 }
noncomputable def b_X7_nextFisher_0 (M : gMem) (x0 : Nat) : Option (Option Nat × gMem) :=
  ck (mT M x0 = 7) <| lw (wI M x0 3 ((imin (((mI M x0 3) + (1 : Int32))) ((8 : Int32))))) fun M2 => dr ((mR M2 x0 7)) fun a4 => ck (mT M2 a4 = 24) <| ck (inb ((mI M2 x0 3) - (1 : Int32)) (mL M2 a4)) <| dr ((mR M2 a4 (((mI M2 x0 3) - (1 : Int32))).toNatClampNeg)) fun a8 => ck (mT M2 a8 = 1) <| bd (f_X1_copyFrom M2 a8 ((mR M2 x0 15))) fun _ M7 => some ((mR M2 a4 (((mI M2 x0 3) - (1 : Int32))).toNatClampNeg), M7)
noncomputable def f_X7_nextFisher (M : gMem) (x0 : Nat) : Option (Option Nat × gMem) :=
  b_X7_nextFisher_0 M x0
set_option maxHeartbeats 4000000 in
set_option maxRecDepth 100000 in
theorem t_X7_nextFisher_0 (X : gX p s m args meth c D cy B (gSt Z B H0) RX7 cX7_nextFisher wsX7_nextFisher 2) (hr : meth.sig.returnType = (some (.object "TideLots$Fisher"))) {Q : State → Prop} : ∀ (M : gMem) (x0 : Nat) (z : Option Nat × gMem), b_X7_nextFisher_0 M x0 = some z → (fun (r : Option Nat × gMem) => Q = gMQ below D cy B H0 args s 0 0 (some (vR r.1)) r.2) z → gGo p l e rX7_nextFisher s m args below meth c D cy B H0 2 0 0 Q 0 [(0, vR (some x0))] [] M := sorry

set_option maxHeartbeats 4000000 in
set_option maxRecDepth 100000 in
theorem m_X7_nextFisher (l : Launch) {D : va_G} {cy : Nat → ClassId} {B : Nat} {H0 : Heap} {Z : Nat → Nat} {M M1 : gMem} {x0 : Nat} {r : Option Nat} (hf : f_X7_nextFisher M x0 = some (r, M1)) : Met l yX7_nextFisher wsX7_nextFisher rX7_nextFisher (va_Pc (Value.ref x0 :: List.map gv []) (gPre D cy B H0 (gSt Z B H0) M)) (gQ D cy B H0 (some (vR r)) M1) 0 0 (gA B) := sorry

/-! ## TideLots$Shore.nextGo()LTideLots$Go; -/
theorem i_X7_nextGo_X7 : ∀ w ∈ u_ws RX7 TX7 17, w ∈ wsX7_nextGo := sorry

abbrev rX7_nextGo : Room := { frames := 1, cells := 0, slots := 0, locals := 14 }
noncomputable def b_X7_nextGo_0 (M : gMem) (x0 : Nat) : Option (Option Nat × gMem) :=
  ck (mT M x0 = 7) <| lw (wI M x0 4 ((imin (((mI M x0 4) + (1 : Int32))) ((24 : Int32))))) fun M2 => dr ((mR M2 x0 8)) fun a4 => ck (mT M2 a4 = 25) <| ck (inb ((mI M2 x0 4) - (1 : Int32)) (mL M2 a4)) <| some ((mR M2 a4 (((mI M2 x0 4) - (1 : Int32))).toNatClampNeg), M2)
noncomputable def f_X7_nextGo (M : gMem) (x0 : Nat) : Option (Option Nat × gMem) :=
  b_X7_nextGo_0 M x0
set_option maxHeartbeats 4000000 in
set_option maxRecDepth 100000 in
theorem t_X7_nextGo_0 (X : gX p s m args meth c D cy B (gSt Z B H0) RX7 cX7_nextGo wsX7_nextGo 1) (hr : meth.sig.returnType = (some (.object "TideLots$Go"))) {Q : State → Prop} : ∀ (M : gMem) (x0 : Nat) (z : Option Nat × gMem), b_X7_nextGo_0 M x0 = some z → (fun (r : Option Nat × gMem) => Q = gMQ below D cy B H0 args s 0 0 (some (vR r.1)) r.2) z → gGo p l e rX7_nextGo s m args below meth c D cy B H0 1 0 0 Q 0 [(0, vR (some x0))] [] M := sorry

set_option maxHeartbeats 4000000 in
set_option maxRecDepth 100000 in
theorem m_X7_nextGo (l : Launch) {D : va_G} {cy : Nat → ClassId} {B : Nat} {H0 : Heap} {Z : Nat → Nat} {M M1 : gMem} {x0 : Nat} {r : Option Nat} (hf : f_X7_nextGo M x0 = some (r, M1)) : Met l yX7_nextGo wsX7_nextGo rX7_nextGo (va_Pc (Value.ref x0 :: List.map gv []) (gPre D cy B H0 (gSt Z B H0) M)) (gQ D cy B H0 (some (vR r)) M1) 0 0 (gA B) := sorry

/-! ## TideLots$Shore.nextPact()LTideLots$Pact; -/
set_option maxRecDepth 20000 in
set_option maxRecDepth 20000 in
theorem gX7_nextPact_X5_copyFrom : GoodIn wsX7_nextPact (wsV RX7 100 RX5 yX5_copyFrom wsX5_copyFrom) := sorry

theorem i_X7_nextPact_X7 : ∀ w ∈ u_ws RX7 TX7 17, w ∈ wsX7_nextPact := sorry

abbrev rX7_nextPact : Room := { frames := 1, cells := 0, slots := 0, locals := 22 }
noncomputable def b_X7_nextPact_0 (M : gMem) (x0 : Nat) : Option (Option Nat × gMem) :=
  ck (mT M x0 = 7) <| lw (wI M x0 5 ((imin (((mI M x0 5) + (1 : Int32))) ((6 : Int32))))) fun M2 => dr ((mR M2 x0 9)) fun a4 => ck (mT M2 a4 = 26) <| ck (inb ((mI M2 x0 5) - (1 : Int32)) (mL M2 a4)) <| dr ((mR M2 a4 (((mI M2 x0 5) - (1 : Int32))).toNatClampNeg)) fun a8 => ck (mT M2 a8 = 5) <| bd (f_X5_copyFrom M2 a8 ((mR M2 x0 16))) fun _ M7 => some ((mR M2 a4 (((mI M2 x0 5) - (1 : Int32))).toNatClampNeg), M7)
noncomputable def f_X7_nextPact (M : gMem) (x0 : Nat) : Option (Option Nat × gMem) :=
  b_X7_nextPact_0 M x0
set_option maxHeartbeats 4000000 in
set_option maxRecDepth 100000 in
theorem t_X7_nextPact_0 (X : gX p s m args meth c D cy B (gSt Z B H0) RX7 cX7_nextPact wsX7_nextPact 2) (hr : meth.sig.returnType = (some (.object "TideLots$Pact"))) {Q : State → Prop} : ∀ (M : gMem) (x0 : Nat) (z : Option Nat × gMem), b_X7_nextPact_0 M x0 = some z → (fun (r : Option Nat × gMem) => Q = gMQ below D cy B H0 args s 0 0 (some (vR r.1)) r.2) z → gGo p l e rX7_nextPact s m args below meth c D cy B H0 2 0 0 Q 0 [(0, vR (some x0))] [] M := sorry

set_option maxHeartbeats 4000000 in
set_option maxRecDepth 100000 in
theorem m_X7_nextPact (l : Launch) {D : va_G} {cy : Nat → ClassId} {B : Nat} {H0 : Heap} {Z : Nat → Nat} {M M1 : gMem} {x0 : Nat} {r : Option Nat} (hf : f_X7_nextPact M x0 = some (r, M1)) : Met l yX7_nextPact wsX7_nextPact rX7_nextPact (va_Pc (Value.ref x0 :: List.map gv []) (gPre D cy B H0 (gSt Z B H0) M)) (gQ D cy B H0 (some (vR r)) M1) 0 0 (gA B) := sorry

/-! ## TideLots$Shore.copyFrom(LTideLots$Shore;)V -/
set_option maxRecDepth 20000 in
set_option maxRecDepth 20000 in
theorem gX7_copyFrom_X9_copyFrom : GoodIn wsX7_copyFrom (wsV RX7 109 RX9 yX9_copyFrom wsX9_copyFrom) := sorry

set_option maxRecDepth 20000 in
set_option maxRecDepth 20000 in
theorem gX7_copyFrom_X5_copyFrom : GoodIn wsX7_copyFrom (wsV RX7 100 RX5 yX5_copyFrom wsX5_copyFrom) := sorry

set_option maxRecDepth 20000 in
set_option maxRecDepth 20000 in
theorem gX7_copyFrom_X2_copyFrom : GoodIn wsX7_copyFrom (wsV RX7 106 RX2 yX2_copyFrom wsX2_copyFrom) := sorry

set_option maxRecDepth 20000 in
set_option maxRecDepth 20000 in
theorem gX7_copyFrom_X1_copyFrom : GoodIn wsX7_copyFrom (wsV RX7 97 RX1 yX1_copyFrom wsX1_copyFrom) := sorry

set_option maxRecDepth 20000 in
set_option maxRecDepth 20000 in
theorem gX7_copyFrom_X3_copyFrom : GoodIn wsX7_copyFrom (wsV RX7 93 RX3 yX3_copyFrom wsX3_copyFrom) := sorry

theorem i_X7_copyFrom_X7 : ∀ w ∈ u_ws RX7 TX7 17, w ∈ wsX7_copyFrom := sorry

abbrev rX7_copyFrom : Room := { frames := 1, cells := 0, slots := 0, locals := 22 }
noncomputable def bb_X7_copyFrom_143 (Z : Nat → Nat) (M : gMem) (x0 : Nat) (x1 : Option Nat) (x2 : Int32) : Option ((gMem × Int32) ⊕ (Unit × gMem)) :=
  ck (mT M x0 = 7) <| (if (mI M x0 5) ≤ x2 then dr x1 fun a2 => ck (mT M a2 = 7) <| dr ((mR M x0 10)) fun a5 => ck (mT M a5 = 8) <| bd (f_X9_copyFrom Z M a5 ((mR M a2 10))) fun _ M4 => oI (some ((), M4)) else dr ((mR M x0 9)) fun a8 => ck (mT M a8 = 26) <| ck (inb x2 (mL M a8)) <| dr x1 fun a11 => ck (mT M a11 = 7) <| dr ((mR M a11 9)) fun a13 => ck (mT M a13 = 26) <| ck (inb x2 (mL M a13)) <| dr ((mR M a8 x2.toNatClampNeg)) fun a17 => ck (mT M a17 = 5) <| bd (f_X5_copyFrom M a17 ((mR M a13 x2.toNatClampNeg))) fun _ M16 => some (.inl (M16, (x2 + (1 : Int32)))))
noncomputable def lp_X7_copyFrom_143 (Z : Nat → Nat) (M : gMem) (x0 : Nat) (x1 : Option Nat) (x2 : Int32) : Option (Unit × gMem) :=
  lp (fun (q : gMem × Int32) => bb_X7_copyFrom_143 Z q.1 x0 x1 q.2) (M, x2)
noncomputable def bb_X7_copyFrom_112 (Z : Nat → Nat) (M : gMem) (x0 : Nat) (x1 : Option Nat) (x2 : Int32) : Option ((gMem × Int32) ⊕ (Unit × gMem)) :=
  ck (mT M x0 = 7) <| (if (mI M x0 4) ≤ x2 then oI (lp_X7_copyFrom_143 Z M x0 x1 ((0 : Int32))) else dr ((mR M x0 8)) fun a21 => ck (mT M a21 = 25) <| ck (inb x2 (mL M a21)) <| dr x1 fun a24 => ck (mT M a24 = 7) <| dr ((mR M a24 8)) fun a26 => ck (mT M a26 = 25) <| ck (inb x2 (mL M a26)) <| dr ((mR M a21 x2.toNatClampNeg)) fun a30 => ck (mT M a30 = 2) <| bd (f_X2_copyFrom M a30 ((mR M a26 x2.toNatClampNeg))) fun _ M29 => some (.inl (M29, (x2 + (1 : Int32)))))
noncomputable def lp_X7_copyFrom_112 (Z : Nat → Nat) (M : gMem) (x0 : Nat) (x1 : Option Nat) (x2 : Int32) : Option (Unit × gMem) :=
  lp (fun (q : gMem × Int32) => bb_X7_copyFrom_112 Z q.1 x0 x1 q.2) (M, x2)
noncomputable def bb_X7_copyFrom_81 (Z : Nat → Nat) (M : gMem) (x0 : Nat) (x1 : Option Nat) (x2 : Int32) : Option ((gMem × Int32) ⊕ (Unit × gMem)) :=
  ck (mT M x0 = 7) <| (if (mI M x0 3) ≤ x2 then oI (lp_X7_copyFrom_112 Z M x0 x1 ((0 : Int32))) else dr ((mR M x0 7)) fun a34 => ck (mT M a34 = 24) <| ck (inb x2 (mL M a34)) <| dr x1 fun a37 => ck (mT M a37 = 7) <| dr ((mR M a37 7)) fun a39 => ck (mT M a39 = 24) <| ck (inb x2 (mL M a39)) <| dr ((mR M a34 x2.toNatClampNeg)) fun a43 => ck (mT M a43 = 1) <| bd (f_X1_copyFrom M a43 ((mR M a39 x2.toNatClampNeg))) fun _ M42 => some (.inl (M42, (x2 + (1 : Int32)))))
noncomputable def lp_X7_copyFrom_81 (Z : Nat → Nat) (M : gMem) (x0 : Nat) (x1 : Option Nat) (x2 : Int32) : Option (Unit × gMem) :=
  lp (fun (q : gMem × Int32) => bb_X7_copyFrom_81 Z q.1 x0 x1 q.2) (M, x2)
noncomputable def bb_X7_copyFrom_50 (Z : Nat → Nat) (M : gMem) (x0 : Nat) (x1 : Option Nat) (x2 : Int32) : Option ((gMem × Int32) ⊕ (Unit × gMem)) :=
  ck (mT M x0 = 7) <| (if (mI M x0 2) ≤ x2 then oI (lp_X7_copyFrom_81 Z M x0 x1 ((0 : Int32))) else dr ((mR M x0 6)) fun a47 => ck (mT M a47 = 23) <| ck (inb x2 (mL M a47)) <| dr x1 fun a50 => ck (mT M a50 = 7) <| dr ((mR M a50 6)) fun a52 => ck (mT M a52 = 23) <| ck (inb x2 (mL M a52)) <| dr ((mR M a47 x2.toNatClampNeg)) fun a56 => ck (mT M a56 = 3) <| bd (f_X3_copyFrom M a56 ((mR M a52 x2.toNatClampNeg))) fun _ M55 => some (.inl (M55, (x2 + (1 : Int32)))))
noncomputable def lp_X7_copyFrom_50 (Z : Nat → Nat) (M : gMem) (x0 : Nat) (x1 : Option Nat) (x2 : Int32) : Option (Unit × gMem) :=
  lp (fun (q : gMem × Int32) => bb_X7_copyFrom_50 Z q.1 x0 x1 q.2) (M, x2)
noncomputable def b_X7_copyFrom_0 (Z : Nat → Nat) (M : gMem) (x0 : Nat) (x1 : Option Nat) : Option (Unit × gMem) :=
  dr x1 fun a58 => ck (mT M a58 = 7) <| ck (mT M x0 = 7) <| lw (wI M x0 0 ((mI M a58 0))) fun M61 => lw (wI M61 x0 1 ((mI M61 a58 1))) fun M64 => lw (wI M64 x0 2 ((mI M64 a58 2))) fun M67 => lw (wI M67 x0 3 ((mI M67 a58 3))) fun M70 => lw (wI M70 x0 4 ((mI M70 a58 4))) fun M73 => lw (wI M73 x0 5 ((mI M73 a58 5))) fun M76 => lp_X7_copyFrom_50 Z M76 x0 x1 ((0 : Int32))
noncomputable def f_X7_copyFrom (Z : Nat → Nat) (M : gMem) (x0 : Nat) (x1 : Option Nat) : Option (Unit × gMem) :=
  b_X7_copyFrom_0 Z M x0 x1
set_option maxHeartbeats 4000000 in
set_option maxRecDepth 100000 in
set_option maxHeartbeats 4000000 in
set_option maxRecDepth 100000 in
set_option maxHeartbeats 4000000 in
set_option maxRecDepth 100000 in
set_option maxHeartbeats 4000000 in
set_option maxRecDepth 100000 in
set_option maxHeartbeats 4000000 in
set_option maxRecDepth 100000 in
set_option maxHeartbeats 4000000 in
set_option maxRecDepth 100000 in
set_option maxHeartbeats 4000000 in
set_option maxRecDepth 100000 in
set_option maxHeartbeats 4000000 in
set_option maxRecDepth 100000 in
set_option maxHeartbeats 4000000 in
set_option maxRecDepth 100000 in
theorem t_X7_copyFrom_0 (X : gX p s m args meth c D cy B (gSt Z B H0) RX7 cX7_copyFrom wsX7_copyFrom 3) (hr : meth.sig.returnType = none) {Q : State → Prop} : ∀ (M : gMem) (x0 : Nat) (x1 : Option Nat) (z : Unit × gMem), b_X7_copyFrom_0 Z M x0 x1 = some z → (fun (r : Unit × gMem) => Q = gMQ below D cy B H0 args s 0 0 none r.2) z → gGo p l e rX7_copyFrom s m args below meth c D cy B H0 3 0 0 Q 0 [(0, vR (some x0)), (1, vR x1)] [] M := sorry

set_option maxHeartbeats 4000000 in
set_option maxRecDepth 100000 in
theorem m_X7_copyFrom (l : Launch) {D : va_G} {cy : Nat → ClassId} {B : Nat} {H0 : Heap} {Z : Nat → Nat} {M M1 : gMem} {x0 : Nat} {x1 : Option Nat} {r : Unit} (hf : f_X7_copyFrom Z M x0 x1 = some (r, M1)) : Met l yX7_copyFrom wsX7_copyFrom rX7_copyFrom (va_Pc (Value.ref x0 :: List.map gv [vR x1]) (gPre D cy B H0 (gSt Z B H0) M)) (gQ D cy B H0 none M1) 0 0 (gA B) := sorry

/-! ## TideLots$Shore.allFish()I -/
set_option maxRecDepth 20000 in
set_option maxRecDepth 20000 in
theorem gX7_allFish_X3_allFish : GoodIn wsX7_allFish (wsV RX7 112 RX3 yX3_allFish wsX3_allFish) := sorry

theorem i_X7_allFish_X7 : ∀ w ∈ u_ws RX7 TX7 17, w ∈ wsX7_allFish := sorry

abbrev rX7_allFish : Room := { frames := 1, cells := 0, slots := 0, locals := 22 }
noncomputable def bb_X7_allFish_4 (M : gMem) (x0 : Nat) (x1 : Int32) (x2 : Int32) : Option ((gMem × Int32 × Int32) ⊕ (Int32 × gMem)) :=
  ck (mT M x0 = 7) <| (if (mI M x0 2) ≤ x2 then oI (some (x1, M)) else dr ((mR M x0 6)) fun a3 => ck (mT M a3 = 23) <| ck (inb x2 (mL M a3)) <| dr ((mR M a3 x2.toNatClampNeg)) fun a7 => ck (mT M a7 = 3) <| bd (f_X3_allFish M a7) fun r6 M6 => some (.inl (M6, (x1 + r6), (x2 + (1 : Int32)))))
noncomputable def lp_X7_allFish_4 (M : gMem) (x0 : Nat) (x1 : Int32) (x2 : Int32) : Option (Int32 × gMem) :=
  lp (fun (q : gMem × Int32 × Int32) => bb_X7_allFish_4 q.1 x0 q.2.1 q.2.2) (M, x1, x2)
noncomputable def b_X7_allFish_0 (M : gMem) (x0 : Nat) : Option (Int32 × gMem) :=
  lp_X7_allFish_4 M x0 ((0 : Int32)) ((0 : Int32))
noncomputable def f_X7_allFish (M : gMem) (x0 : Nat) : Option (Int32 × gMem) :=
  b_X7_allFish_0 M x0
set_option maxHeartbeats 4000000 in
set_option maxRecDepth 100000 in
set_option maxHeartbeats 4000000 in
set_option maxRecDepth 100000 in
set_option maxHeartbeats 4000000 in
set_option maxRecDepth 100000 in
theorem t_X7_allFish_0 (X : gX p s m args meth c D cy B (gSt Z B H0) RX7 cX7_allFish wsX7_allFish 3) (hr : meth.sig.returnType = (some .int)) {Q : State → Prop} : ∀ (M : gMem) (x0 : Nat) (z : Int32 × gMem), b_X7_allFish_0 M x0 = some z → (fun (r : Int32 × gMem) => Q = gMQ below D cy B H0 args s 0 0 (some (vI r.1)) r.2) z → gGo p l e rX7_allFish s m args below meth c D cy B H0 3 0 0 Q 0 [(0, vR (some x0))] [] M := sorry

set_option maxHeartbeats 4000000 in
set_option maxRecDepth 100000 in
theorem m_X7_allFish (l : Launch) {D : va_G} {cy : Nat → ClassId} {B : Nat} {H0 : Heap} {Z : Nat → Nat} {M M1 : gMem} {x0 : Nat} {r : Int32} (hf : f_X7_allFish M x0 = some (r, M1)) : Met l yX7_allFish wsX7_allFish rX7_allFish (va_Pc (Value.ref x0 :: List.map gv []) (gPre D cy B H0 (gSt Z B H0) M)) (gQ D cy B H0 (some (vI r)) M1) 0 0 (gA B) := sorry

/-! ## TideLots$Shore.allStores()I -/
theorem i_X7_allStores_X7 : ∀ w ∈ u_ws RX7 TX7 17, w ∈ wsX7_allStores := sorry

theorem i_X7_allStores_X1 : ∀ w ∈ u_ws RX1 TX1 11, w ∈ wsX7_allStores := sorry

abbrev rX7_allStores : Room := { frames := 0, cells := 0, slots := 0, locals := 0 }
noncomputable def bb_X7_allStores_4 (M : gMem) (x0 : Nat) (x1 : Int32) (x2 : Int32) : Option ((gMem × Int32 × Int32) ⊕ (Int32 × gMem)) :=
  ck (mT M x0 = 7) <| (if (mI M x0 3) ≤ x2 then oI (some (x1, M)) else dr ((mR M x0 7)) fun a3 => ck (mT M a3 = 24) <| ck (inb x2 (mL M a3)) <| dr ((mR M a3 x2.toNatClampNeg)) fun a6 => ck (mT M a6 = 1) <| some (.inl (M, (x1 + (mI M a6 4)), (x2 + (1 : Int32)))))
noncomputable def lp_X7_allStores_4 (M : gMem) (x0 : Nat) (x1 : Int32) (x2 : Int32) : Option (Int32 × gMem) :=
  lp (fun (q : gMem × Int32 × Int32) => bb_X7_allStores_4 q.1 x0 q.2.1 q.2.2) (M, x1, x2)
noncomputable def b_X7_allStores_0 (M : gMem) (x0 : Nat) : Option (Int32 × gMem) :=
  lp_X7_allStores_4 M x0 ((0 : Int32)) ((0 : Int32))
noncomputable def f_X7_allStores (M : gMem) (x0 : Nat) : Option (Int32 × gMem) :=
  b_X7_allStores_0 M x0
set_option maxHeartbeats 4000000 in
set_option maxRecDepth 100000 in
set_option maxHeartbeats 4000000 in
set_option maxRecDepth 100000 in
set_option maxHeartbeats 4000000 in
set_option maxRecDepth 100000 in
theorem t_X7_allStores_0 (X : gX p s m args meth c D cy B (gSt Z B H0) RX7 cX7_allStores wsX7_allStores 3) (hr : meth.sig.returnType = (some .int)) {Q : State → Prop} : ∀ (M : gMem) (x0 : Nat) (z : Int32 × gMem), b_X7_allStores_0 M x0 = some z → (fun (r : Int32 × gMem) => Q = gMQ below D cy B H0 args s 0 0 (some (vI r.1)) r.2) z → gGo p l e rX7_allStores s m args below meth c D cy B H0 3 0 0 Q 0 [(0, vR (some x0))] [] M := sorry

set_option maxHeartbeats 4000000 in
set_option maxRecDepth 100000 in
theorem m_X7_allStores (l : Launch) {D : va_G} {cy : Nat → ClassId} {B : Nat} {H0 : Heap} {Z : Nat → Nat} {M M1 : gMem} {x0 : Nat} {r : Int32} (hf : f_X7_allStores M x0 = some (r, M1)) : Met l yX7_allStores wsX7_allStores rX7_allStores (va_Pc (Value.ref x0 :: List.map gv []) (gPre D cy B H0 (gSt Z B H0) M)) (gQ D cy B H0 (some (vI r)) M1) 0 0 (gA B) := sorry

/-! ## TideLots$Shore.widenedNets()I -/
theorem i_X7_widenedNets_X7 : ∀ w ∈ u_ws RX7 TX7 17, w ∈ wsX7_widenedNets := sorry

theorem i_X7_widenedNets_X1 : ∀ w ∈ u_ws RX1 TX1 11, w ∈ wsX7_widenedNets := sorry

abbrev rX7_widenedNets : Room := { frames := 0, cells := 0, slots := 0, locals := 0 }
noncomputable def b_X7_widenedNets_39 (M : gMem) (x0 : Nat) (x2 : Int32) (s0 : Int32) (s1 : Int32) : Option ((gMem × Int32 × Int32) ⊕ (Int32 × gMem)) :=
  some (.inl (M, (s0 + s1), (x2 + (1 : Int32))))
noncomputable def bb_X7_widenedNets_4 (M : gMem) (x0 : Nat) (x1 : Int32) (x2 : Int32) : Option ((gMem × Int32 × Int32) ⊕ (Int32 × gMem)) :=
  ck (mT M x0 = 7) <| (if (mI M x0 3) ≤ x2 then oI (some (x1, M)) else dr ((mR M x0 7)) fun a3 => ck (mT M a3 = 24) <| ck (inb x2 (mL M a3)) <| dr ((mR M a3 x2.toNatClampNeg)) fun a6 => ck (mT M a6 = 1) <| ck (inb x2 (mL M a3)) <| (if (mI M a6 1) ≤ (mI M a6 0) then b_X7_widenedNets_39 M x0 x2 x1 ((0 : Int32)) else b_X7_widenedNets_39 M x0 x2 x1 ((1 : Int32))))
noncomputable def lp_X7_widenedNets_4 (M : gMem) (x0 : Nat) (x1 : Int32) (x2 : Int32) : Option (Int32 × gMem) :=
  lp (fun (q : gMem × Int32 × Int32) => bb_X7_widenedNets_4 q.1 x0 q.2.1 q.2.2) (M, x1, x2)
noncomputable def b_X7_widenedNets_0 (M : gMem) (x0 : Nat) : Option (Int32 × gMem) :=
  lp_X7_widenedNets_4 M x0 ((0 : Int32)) ((0 : Int32))
noncomputable def f_X7_widenedNets (M : gMem) (x0 : Nat) : Option (Int32 × gMem) :=
  b_X7_widenedNets_0 M x0
set_option maxHeartbeats 4000000 in
set_option maxRecDepth 100000 in
theorem t_X7_widenedNets_39 (X : gX p s m args meth c D cy B (gSt Z B H0) RX7 cX7_widenedNets wsX7_widenedNets 3) (hr : meth.sig.returnType = (some .int)) {Q : State → Prop} : ∀ (M : gMem) (x0 : Nat) (x2 : Int32) (s0 : Int32) (s1 : Int32) (z : (gMem × Int32 × Int32) ⊕ (Int32 × gMem)), b_X7_widenedNets_39 M x0 x2 s0 s1 = some z → (Sum.elim (fun (q : gMem × Int32 × Int32) => gGo p l e rX7_widenedNets s m args below meth c D cy B H0 3 0 0 Q 4 [(0, vR (some x0)), (1, vI q.2.1), (2, vI q.2.2)] [] q.1) (fun (r : Int32 × gMem) => Q = gMQ below D cy B H0 args s 0 0 (some (vI r.1)) r.2)) z → gGo p l e rX7_widenedNets s m args below meth c D cy B H0 3 0 0 Q 39 [(0, vR (some x0)), (2, vI x2)] [vI s1, vI s0] M := sorry

set_option maxHeartbeats 4000000 in
set_option maxRecDepth 100000 in
set_option maxHeartbeats 4000000 in
set_option maxRecDepth 100000 in
set_option maxHeartbeats 4000000 in
set_option maxRecDepth 100000 in
theorem t_X7_widenedNets_0 (X : gX p s m args meth c D cy B (gSt Z B H0) RX7 cX7_widenedNets wsX7_widenedNets 3) (hr : meth.sig.returnType = (some .int)) {Q : State → Prop} : ∀ (M : gMem) (x0 : Nat) (z : Int32 × gMem), b_X7_widenedNets_0 M x0 = some z → (fun (r : Int32 × gMem) => Q = gMQ below D cy B H0 args s 0 0 (some (vI r.1)) r.2) z → gGo p l e rX7_widenedNets s m args below meth c D cy B H0 3 0 0 Q 0 [(0, vR (some x0))] [] M := sorry

set_option maxHeartbeats 4000000 in
set_option maxRecDepth 100000 in
theorem m_X7_widenedNets (l : Launch) {D : va_G} {cy : Nat → ClassId} {B : Nat} {H0 : Heap} {Z : Nat → Nat} {M M1 : gMem} {x0 : Nat} {r : Int32} (hf : f_X7_widenedNets M x0 = some (r, M1)) : Met l yX7_widenedNets wsX7_widenedNets rX7_widenedNets (va_Pc (Value.ref x0 :: List.map gv []) (gPre D cy B H0 (gSt Z B H0) M)) (gQ D cy B H0 (some (vI r)) M1) 0 0 (gA B) := sorry

/-! ## TideLots$Shore.allCheats()I -/
theorem i_X7_allCheats_X7 : ∀ w ∈ u_ws RX7 TX7 17, w ∈ wsX7_allCheats := sorry

theorem i_X7_allCheats_X1 : ∀ w ∈ u_ws RX1 TX1 11, w ∈ wsX7_allCheats := sorry

abbrev rX7_allCheats : Room := { frames := 0, cells := 0, slots := 0, locals := 0 }
noncomputable def b_X7_allCheats_30 (M : gMem) (x0 : Nat) (x2 : Int32) (s0 : Int32) (s1 : Int32) : Option ((gMem × Int32 × Int32) ⊕ (Int32 × gMem)) :=
  some (.inl (M, (s0 + s1), (x2 + (1 : Int32))))
noncomputable def bb_X7_allCheats_4 (M : gMem) (x0 : Nat) (x1 : Int32) (x2 : Int32) : Option ((gMem × Int32 × Int32) ⊕ (Int32 × gMem)) :=
  ck (mT M x0 = 7) <| (if (mI M x0 3) ≤ x2 then oI (some (x1, M)) else dr ((mR M x0 7)) fun a3 => ck (mT M a3 = 24) <| ck (inb x2 (mL M a3)) <| dr ((mR M a3 x2.toNatClampNeg)) fun a6 => ck (mT M a6 = 1) <| (if (mI M a6 9) = 0 then b_X7_allCheats_30 M x0 x2 x1 ((0 : Int32)) else b_X7_allCheats_30 M x0 x2 x1 ((1 : Int32))))
noncomputable def lp_X7_allCheats_4 (M : gMem) (x0 : Nat) (x1 : Int32) (x2 : Int32) : Option (Int32 × gMem) :=
  lp (fun (q : gMem × Int32 × Int32) => bb_X7_allCheats_4 q.1 x0 q.2.1 q.2.2) (M, x1, x2)
noncomputable def b_X7_allCheats_0 (M : gMem) (x0 : Nat) : Option (Int32 × gMem) :=
  lp_X7_allCheats_4 M x0 ((0 : Int32)) ((0 : Int32))
noncomputable def f_X7_allCheats (M : gMem) (x0 : Nat) : Option (Int32 × gMem) :=
  b_X7_allCheats_0 M x0
set_option maxHeartbeats 4000000 in
set_option maxRecDepth 100000 in
theorem t_X7_allCheats_30 (X : gX p s m args meth c D cy B (gSt Z B H0) RX7 cX7_allCheats wsX7_allCheats 3) (hr : meth.sig.returnType = (some .int)) {Q : State → Prop} : ∀ (M : gMem) (x0 : Nat) (x2 : Int32) (s0 : Int32) (s1 : Int32) (z : (gMem × Int32 × Int32) ⊕ (Int32 × gMem)), b_X7_allCheats_30 M x0 x2 s0 s1 = some z → (Sum.elim (fun (q : gMem × Int32 × Int32) => gGo p l e rX7_allCheats s m args below meth c D cy B H0 3 0 0 Q 4 [(0, vR (some x0)), (1, vI q.2.1), (2, vI q.2.2)] [] q.1) (fun (r : Int32 × gMem) => Q = gMQ below D cy B H0 args s 0 0 (some (vI r.1)) r.2)) z → gGo p l e rX7_allCheats s m args below meth c D cy B H0 3 0 0 Q 30 [(0, vR (some x0)), (2, vI x2)] [vI s1, vI s0] M := sorry

set_option maxHeartbeats 4000000 in
set_option maxRecDepth 100000 in
set_option maxHeartbeats 4000000 in
set_option maxRecDepth 100000 in
set_option maxHeartbeats 4000000 in
set_option maxRecDepth 100000 in
theorem t_X7_allCheats_0 (X : gX p s m args meth c D cy B (gSt Z B H0) RX7 cX7_allCheats wsX7_allCheats 3) (hr : meth.sig.returnType = (some .int)) {Q : State → Prop} : ∀ (M : gMem) (x0 : Nat) (z : Int32 × gMem), b_X7_allCheats_0 M x0 = some z → (fun (r : Int32 × gMem) => Q = gMQ below D cy B H0 args s 0 0 (some (vI r.1)) r.2) z → gGo p l e rX7_allCheats s m args below meth c D cy B H0 3 0 0 Q 0 [(0, vR (some x0))] [] M := sorry

set_option maxHeartbeats 4000000 in
set_option maxRecDepth 100000 in
theorem m_X7_allCheats (l : Launch) {D : va_G} {cy : Nat → ClassId} {B : Nat} {H0 : Heap} {Z : Nat → Nat} {M M1 : gMem} {x0 : Nat} {r : Int32} (hf : f_X7_allCheats M x0 = some (r, M1)) : Met l yX7_allCheats wsX7_allCheats rX7_allCheats (va_Pc (Value.ref x0 :: List.map gv []) (gPre D cy B H0 (gSt Z B H0) M)) (gQ D cy B H0 (some (vI r)) M1) 0 0 (gA B) := sorry

/-! ## TideLots$Shore.storeGap()I -/
theorem i_X7_storeGap_X7 : ∀ w ∈ u_ws RX7 TX7 17, w ∈ wsX7_storeGap := sorry

theorem i_X7_storeGap_X1 : ∀ w ∈ u_ws RX1 TX1 11, w ∈ wsX7_storeGap := sorry

abbrev rX7_storeGap : Room := { frames := 1, cells := 0, slots := 0, locals := 13 }
noncomputable def bb_X7_storeGap_23 (M : gMem) (x0 : Nat) (x1 : Int32) (x2 : Int32) (x3 : Int32) : Option ((gMem × Int32 × Int32 × Int32) ⊕ (Int32 × gMem)) :=
  ck (mT M x0 = 7) <| (if (mI M x0 3) ≤ x3 then oI (some ((x2 - x1), M)) else dr ((mR M x0 7)) fun a3 => ck (mT M a3 = 24) <| ck (inb x3 (mL M a3)) <| dr ((mR M a3 x3.toNatClampNeg)) fun a6 => ck (mT M a6 = 1) <| ck (inb x3 (mL M a3)) <| some (.inl (M, (imin x1 ((mI M a6 4))), (imax x2 ((mI M a6 4))), (x3 + (1 : Int32)))))
noncomputable def lp_X7_storeGap_23 (M : gMem) (x0 : Nat) (x1 : Int32) (x2 : Int32) (x3 : Int32) : Option (Int32 × gMem) :=
  lp (fun (q : gMem × Int32 × Int32 × Int32) => bb_X7_storeGap_23 q.1 x0 q.2.1 q.2.2.1 q.2.2.2) (M, x1, x2, x3)
noncomputable def b_X7_storeGap_0 (M : gMem) (x0 : Nat) : Option (Int32 × gMem) :=
  ck (mT M x0 = 7) <| (if (mI M x0 3) = 0 then some ((0 : Int32), M) else dr ((mR M x0 7)) fun a10 => ck (mT M a10 = 24) <| ck (inb (0 : Int32) (mL M a10)) <| dr ((mR M a10 ((0 : Int32)).toNatClampNeg)) fun a13 => ck (mT M a13 = 1) <| lp_X7_storeGap_23 M x0 ((mI M a13 4)) ((mI M a13 4)) ((1 : Int32)))
noncomputable def f_X7_storeGap (M : gMem) (x0 : Nat) : Option (Int32 × gMem) :=
  b_X7_storeGap_0 M x0
set_option maxHeartbeats 4000000 in
set_option maxRecDepth 100000 in
set_option maxHeartbeats 4000000 in
set_option maxRecDepth 100000 in
set_option maxHeartbeats 4000000 in
set_option maxRecDepth 100000 in
theorem t_X7_storeGap_0 (X : gX p s m args meth c D cy B (gSt Z B H0) RX7 cX7_storeGap wsX7_storeGap 4) (hr : meth.sig.returnType = (some .int)) {Q : State → Prop} : ∀ (M : gMem) (x0 : Nat) (z : Int32 × gMem), b_X7_storeGap_0 M x0 = some z → (fun (r : Int32 × gMem) => Q = gMQ below D cy B H0 args s 0 0 (some (vI r.1)) r.2) z → gGo p l e rX7_storeGap s m args below meth c D cy B H0 4 0 0 Q 0 [(0, vR (some x0))] [] M := sorry

set_option maxHeartbeats 4000000 in
set_option maxRecDepth 100000 in
theorem m_X7_storeGap (l : Launch) {D : va_G} {cy : Nat → ClassId} {B : Nat} {H0 : Heap} {Z : Nat → Nat} {M M1 : gMem} {x0 : Nat} {r : Int32} (hf : f_X7_storeGap M x0 = some (r, M1)) : Met l yX7_storeGap wsX7_storeGap rX7_storeGap (va_Pc (Value.ref x0 :: List.map gv []) (gPre D cy B H0 (gSt Z B H0) M)) (gQ D cy B H0 (some (vI r)) M1) 0 0 (gA B) := sorry

/-! ## TideLots$Shore.drawLots()I -/
theorem i_X7_drawLots_X7 : ∀ w ∈ u_ws RX7 TX7 17, w ∈ wsX7_drawLots := sorry

abbrev rX7_drawLots : Room := { frames := 0, cells := 0, slots := 0, locals := 0 }
noncomputable def bb_X7_drawLots_71 (M : gMem) (x0 : Nat) (x1 : Int32) (x2 : Int32) (x4 : Int32) : Option ((gMem × Int32) ⊕ ((gMem × Int32 × Int32) ⊕ (Int32 × gMem))) :=
  (if x2 ≤ (x4 + (1 : Int32)) then oI (some (.inl (M, x1, (x2 + (-1 : Int32))))) else ck (mT M x0 = 7) <| dr ((mR M x0 12)) fun a3 => ck (mT M a3 = 20) <| ck (inb (x4 + (1 : Int32)) (mL M a3)) <| ck (inb x4 (mL M a3)) <| lw (wI M a3 x4.toNatClampNeg ((mI M a3 ((x4 + (1 : Int32))).toNatClampNeg))) fun M7 => some (.inl (M7, (x4 + (1 : Int32)))))
noncomputable def lp_X7_drawLots_71 (M : gMem) (x0 : Nat) (x1 : Int32) (x2 : Int32) (x4 : Int32) : Option ((gMem × Int32 × Int32) ⊕ (Int32 × gMem)) :=
  lp (fun (q : gMem × Int32) => bb_X7_drawLots_71 q.1 x0 x1 x2 q.2) (M, x4)
noncomputable def bb_X7_drawLots_33 (M : gMem) (x0 : Nat) (x1 : Int32) (x2 : Int32) : Option ((gMem × Int32 × Int32) ⊕ (Int32 × gMem)) :=
  (if x2 ≤ 0 then oI (some (x1, M)) else ck (¬ x2 = 0) <| ck (mT M x0 = 7) <| dr ((mR M x0 12)) fun a13 => ck (mT M a13 = 20) <| ck (inb ((ushr (((x1 * (69069 : Int32)) + (1 : Int32))) ((16 : Int32))) - (ushr (((x1 * (69069 : Int32)) + (1 : Int32))) ((16 : Int32))) / x2 * x2) (mL M a13)) <| dr ((mR M x0 11)) fun a16 => ck (mT M a16 = 20) <| ck (inb ((mI M x0 3) - x2) (mL M a16)) <| lw (wI M a16 (((mI M x0 3) - x2)).toNatClampNeg ((mI M a13 (((ushr (((x1 * (69069 : Int32)) + (1 : Int32))) ((16 : Int32))) - (ushr (((x1 * (69069 : Int32)) + (1 : Int32))) ((16 : Int32))) / x2 * x2)).toNatClampNeg))) fun M19 => lp_X7_drawLots_71 M19 x0 (((x1 * (69069 : Int32)) + (1 : Int32))) x2 (((ushr (((x1 * (69069 : Int32)) + (1 : Int32))) ((16 : Int32))) - (ushr (((x1 * (69069 : Int32)) + (1 : Int32))) ((16 : Int32))) / x2 * x2)))
noncomputable def lp_X7_drawLots_33 (M : gMem) (x0 : Nat) (x1 : Int32) (x2 : Int32) : Option (Int32 × gMem) :=
  lp (fun (q : gMem × Int32 × Int32) => bb_X7_drawLots_33 q.1 x0 q.2.1 q.2.2) (M, x1, x2)
noncomputable def bb_X7_drawLots_7 (M : gMem) (x0 : Nat) (x1 : Int32) (x2 : Int32) : Option ((gMem × Int32) ⊕ (Int32 × gMem)) :=
  ck (mT M x0 = 7) <| (if (mI M x0 3) ≤ x2 then oI (lp_X7_drawLots_33 M x0 x1 ((mI M x0 3))) else dr ((mR M x0 12)) fun a25 => ck (mT M a25 = 20) <| ck (inb x2 (mL M a25)) <| lw (wI M a25 x2.toNatClampNeg x2) fun M28 => some (.inl (M28, (x2 + (1 : Int32)))))
noncomputable def lp_X7_drawLots_7 (M : gMem) (x0 : Nat) (x1 : Int32) (x2 : Int32) : Option (Int32 × gMem) :=
  lp (fun (q : gMem × Int32) => bb_X7_drawLots_7 q.1 x0 x1 q.2) (M, x2)
noncomputable def b_X7_drawLots_0 (M : gMem) (x0 : Nat) : Option (Int32 × gMem) :=
  ck (mT M x0 = 7) <| lp_X7_drawLots_7 M x0 ((mI M x0 1)) ((0 : Int32))
noncomputable def f_X7_drawLots (M : gMem) (x0 : Nat) : Option (Int32 × gMem) :=
  b_X7_drawLots_0 M x0
set_option maxHeartbeats 4000000 in
set_option maxRecDepth 100000 in
set_option maxHeartbeats 4000000 in
set_option maxRecDepth 100000 in
set_option maxHeartbeats 4000000 in
set_option maxRecDepth 100000 in
set_option maxHeartbeats 4000000 in
set_option maxRecDepth 100000 in
set_option maxHeartbeats 4000000 in
set_option maxRecDepth 100000 in
set_option maxHeartbeats 4000000 in
set_option maxRecDepth 100000 in
set_option maxHeartbeats 4000000 in
set_option maxRecDepth 100000 in
theorem t_X7_drawLots_0 (X : gX p s m args meth c D cy B (gSt Z B H0) RX7 cX7_drawLots wsX7_drawLots 5) (hr : meth.sig.returnType = (some .int)) {Q : State → Prop} : ∀ (M : gMem) (x0 : Nat) (z : Int32 × gMem), b_X7_drawLots_0 M x0 = some z → (fun (r : Int32 × gMem) => Q = gMQ below D cy B H0 args s 0 0 (some (vI r.1)) r.2) z → gGo p l e rX7_drawLots s m args below meth c D cy B H0 5 0 0 Q 0 [(0, vR (some x0))] [] M := sorry

set_option maxHeartbeats 4000000 in
set_option maxRecDepth 100000 in
theorem m_X7_drawLots (l : Launch) {D : va_G} {cy : Nat → ClassId} {B : Nat} {H0 : Heap} {Z : Nat → Nat} {M M1 : gMem} {x0 : Nat} {r : Int32} (hf : f_X7_drawLots M x0 = some (r, M1)) : Met l yX7_drawLots wsX7_drawLots rX7_drawLots (va_Pc (Value.ref x0 :: List.map gv []) (gPre D cy B H0 (gSt Z B H0) M)) (gQ D cy B H0 (some (vI r)) M1) 0 0 (gA B) := sorry

end
