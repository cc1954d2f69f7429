section
variable {p : Program} {l : Launch} {e : Env} {s : State} {m : MethodId} {args : Array Value} {below : List Frame} {meth : Method} {c : Code} {D : va_G} {cy : Nat → ClassId} {B : Nat} {H0 : Heap} {Z : Nat → Nat}
/-! ## TideLots$Reader.sign()LTideLots$Sign; -/
theorem i_X6_sign_X6 : ∀ w ∈ u_ws RX6 TX6 9, w ∈ wsX6_sign := sorry

theorem i_X6_sign_X10 : ∀ w ∈ u_ws RX10 TX10 6, w ∈ wsX6_sign := sorry

abbrev rX6_sign : Room := { frames := 0, cells := 0, slots := 0, locals := 0 }
noncomputable def b_X6_sign_0 (M : gMem) (x0 : Nat) : Option (Option Nat × gMem) :=
  ck (mT M x0 = 6) <| dr ((mR M x0 1)) fun a2 => ck (mT M a2 = 9) <| dr ((mR M a2 2)) fun a4 => ck (mT M a4 = 27) <| ck (inb (mI M x0 6) (mL M a4)) <| some ((mR M a4 ((mI M x0 6)).toNatClampNeg), M)
noncomputable def f_X6_sign (M : gMem) (x0 : Nat) : Option (Option Nat × gMem) :=
  b_X6_sign_0 M x0
set_option maxHeartbeats 4000000 in
set_option maxRecDepth 100000 in
theorem t_X6_sign_0 (X : gX p s m args meth c D cy B (gSt Z B H0) RX6 cX6_sign wsX6_sign 1) (hr : meth.sig.returnType = (some (.object "TideLots$Sign"))) {Q : State → Prop} : ∀ (M : gMem) (x0 : Nat) (z : Option Nat × gMem), b_X6_sign_0 M x0 = some z → (fun (r : Option Nat × gMem) => Q = gMQ below D cy B H0 args s 0 0 (some (vR r.1)) r.2) z → gGo p l e rX6_sign s m args below meth c D cy B H0 1 0 0 Q 0 [(0, vR (some x0))] [] M := sorry

set_option maxHeartbeats 4000000 in
set_option maxRecDepth 100000 in
theorem m_X6_sign (l : Launch) {D : va_G} {cy : Nat → ClassId} {B : Nat} {H0 : Heap} {Z : Nat → Nat} {M M1 : gMem} {x0 : Nat} {r : Option Nat} (hf : f_X6_sign M x0 = some (r, M1)) : Met l yX6_sign wsX6_sign rX6_sign (va_Pc (Value.ref x0 :: List.map gv []) (gPre D cy B H0 (gSt Z B H0) M)) (gQ D cy B H0 (some (vR r)) M1) 0 0 (gA B) := sorry

/-! ## TideLots$Reader.noteError(I)V -/
theorem i_X6_noteError_X6 : ∀ w ∈ u_ws RX6 TX6 9, w ∈ wsX6_noteError := sorry

theorem i_X6_noteError_X10 : ∀ w ∈ u_ws RX10 TX10 6, w ∈ wsX6_noteError := sorry

abbrev rX6_noteError : Room := { frames := 0, cells := 0, slots := 0, locals := 0 }
noncomputable def b_X6_noteError_28 (M : gMem)  : Option (Unit × gMem) :=
  some ((), M)
noncomputable def b_X6_noteError_0 (M : gMem) (x0 : Nat) (x1 : Int32) : Option (Unit × gMem) :=
  ck (mT M x0 = 6) <| (if (mI M x0 7) = 0 then lw (wI M x0 7 x1) fun M2 => dr ((mR M2 x0 1)) fun a4 => ck (mT M2 a4 = 9) <| dr ((mR M2 a4 3)) fun a6 => ck (mT M2 a6 = 20) <| ck (inb (mI M2 x0 6) (mL M2 a6)) <| lw (wI M2 x0 0 ((mI M2 a6 ((mI M2 x0 6)).toNatClampNeg))) fun M9 => b_X6_noteError_28 M9  else b_X6_noteError_28 M )
noncomputable def f_X6_noteError (M : gMem) (x0 : Nat) (x1 : Int32) : Option (Unit × gMem) :=
  b_X6_noteError_0 M x0 x1
set_option maxHeartbeats 4000000 in
set_option maxRecDepth 100000 in
theorem t_X6_noteError_28 (X : gX p s m args meth c D cy B (gSt Z B H0) RX6 cX6_noteError wsX6_noteError 2) (hr : meth.sig.returnType = none) {Q : State → Prop} : ∀ (M : gMem)  (z : Unit × gMem), b_X6_noteError_28 M  = some z → (fun (r : Unit × gMem) => Q = gMQ below D cy B H0 args s 0 0 none r.2) z → gGo p l e rX6_noteError s m args below meth c D cy B H0 2 0 0 Q 28 [] [] M := sorry

set_option maxHeartbeats 4000000 in
set_option maxRecDepth 100000 in
theorem t_X6_noteError_0 (X : gX p s m args meth c D cy B (gSt Z B H0) RX6 cX6_noteError wsX6_noteError 2) (hr : meth.sig.returnType = none) {Q : State → Prop} : ∀ (M : gMem) (x0 : Nat) (x1 : Int32) (z : Unit × gMem), b_X6_noteError_0 M x0 x1 = some z → (fun (r : Unit × gMem) => Q = gMQ below D cy B H0 args s 0 0 none r.2) z → gGo p l e rX6_noteError s m args below meth c D cy B H0 2 0 0 Q 0 [(0, vR (some x0)), (1, vI x1)] [] M := sorry

set_option maxHeartbeats 4000000 in
set_option maxRecDepth 100000 in
theorem m_X6_noteError (l : Launch) {D : va_G} {cy : Nat → ClassId} {B : Nat} {H0 : Heap} {Z : Nat → Nat} {M M1 : gMem} {x0 : Nat} {x1 : Int32} {r : Unit} (hf : f_X6_noteError M x0 x1 = some (r, M1)) : Met l yX6_noteError wsX6_noteError rX6_noteError (va_Pc (Value.ref x0 :: List.map gv [vI x1]) (gPre D cy B H0 (gSt Z B H0) M)) (gQ D cy B H0 none M1) 0 0 (gA B) := sorry

/-! ## TideLots$Reader.take(LTideLots$Sign;)Z -/
theorem i_X6_take_X6 : ∀ w ∈ u_ws RX6 TX6 9, w ∈ wsX6_take := sorry

theorem i_X6_take_X10 : ∀ w ∈ u_ws RX10 TX10 6, w ∈ wsX6_take := sorry

abbrev rX6_take : Room := { frames := 0, cells := 0, slots := 0, locals := 0 }
noncomputable def b_X6_take_26 (M : gMem)  : Option (Int32 × gMem) :=
  some ((0 : Int32), M)
noncomputable def b_X6_take_0 (M : gMem) (x0 : Nat) (x1 : Option Nat) : Option (Int32 × gMem) :=
  ck (mT M x0 = 6) <| (if (400 : Int32) ≤ (mI M x0 6) then b_X6_take_26 M  else dr ((mR M x0 1)) fun a2 => ck (mT M a2 = 9) <| dr ((mR M a2 2)) fun a4 => ck (mT M a4 = 27) <| ck (inb (mI M x0 6) (mL M a4)) <| (if (mR M a4 ((mI M x0 6)).toNatClampNeg) = x1 then lw (wI M x0 6 (((mI M x0 6) + (1 : Int32)))) fun M7 => some ((1 : Int32), M7) else b_X6_take_26 M ))
noncomputable def f_X6_take (M : gMem) (x0 : Nat) (x1 : Option Nat) : Option (Int32 × gMem) :=
  b_X6_take_0 M x0 x1
set_option maxHeartbeats 4000000 in
set_option maxRecDepth 100000 in
theorem t_X6_take_26 (X : gX p s m args meth c D cy B (gSt Z B H0) RX6 cX6_take wsX6_take 2) (hr : meth.sig.returnType = (some .boolean)) {Q : State → Prop} : ∀ (M : gMem)  (z : Int32 × gMem), b_X6_take_26 M  = some z → (fun (r : Int32 × gMem) => Q = gMQ below D cy B H0 args s 0 0 (some (vI r.1)) r.2) z → gGo p l e rX6_take s m args below meth c D cy B H0 2 0 0 Q 26 [] [] M := sorry

set_option maxHeartbeats 4000000 in
set_option maxRecDepth 100000 in
theorem t_X6_take_0 (X : gX p s m args meth c D cy B (gSt Z B H0) RX6 cX6_take wsX6_take 2) (hr : meth.sig.returnType = (some .boolean)) {Q : State → Prop} : ∀ (M : gMem) (x0 : Nat) (x1 : Option Nat) (z : Int32 × gMem), b_X6_take_0 M x0 x1 = some z → (fun (r : Int32 × gMem) => Q = gMQ below D cy B H0 args s 0 0 (some (vI r.1)) r.2) z → gGo p l e rX6_take s m args below meth c D cy B H0 2 0 0 Q 0 [(0, vR (some x0)), (1, vR x1)] [] M := sorry

set_option maxHeartbeats 4000000 in
set_option maxRecDepth 100000 in
theorem m_X6_take (l : Launch) {D : va_G} {cy : Nat → ClassId} {B : Nat} {H0 : Heap} {Z : Nat → Nat} {M M1 : gMem} {x0 : Nat} {x1 : Option Nat} {r : Int32} (hf : f_X6_take M x0 x1 = some (r, M1)) : Met l yX6_take wsX6_take rX6_take (va_Pc (Value.ref x0 :: List.map gv [vR x1]) (gPre D cy B H0 (gSt Z B H0) M)) (gQ D cy B H0 (some (vI r)) M1) 0 0 (gA B) := sorry

/-! ## TideLots$Reader.takeNumber(II)Z -/
set_option maxRecDepth 20000 in
set_option maxRecDepth 20000 in
theorem gX6_takeNumber_X6_take : GoodIn wsX6_takeNumber (wsV RX6 79 RX6 yX6_take wsX6_take) := sorry

set_option maxRecDepth 20000 in
set_option maxRecDepth 20000 in
theorem gX6_takeNumber_X6_noteError : GoodIn wsX6_takeNumber (wsV RX6 133 RX6 yX6_noteError wsX6_noteError) := sorry

set_option maxRecDepth 20000 in
set_option maxRecDepth 20000 in
theorem gX6_takeNumber_X6_sign : GoodIn wsX6_takeNumber (wsV RX6 43 RX6 yX6_sign wsX6_sign) := sorry

theorem i_X6_takeNumber_X6 : ∀ w ∈ u_ws RX6 TX6 9, w ∈ wsX6_takeNumber := sorry

theorem i_X6_takeNumber_X10 : ∀ w ∈ u_ws RX10 TX10 6, w ∈ wsX6_takeNumber := sorry

abbrev rX6_takeNumber : Room := { frames := 1, cells := 0, slots := 0, locals := 21 }
noncomputable def b_X6_takeNumber_50 (Z : Nat → Nat) (M : gMem) (x0 : Nat) : Option (Int32 × gMem) :=
  ck (mT M x0 = 6) <| bd (f_X6_take M x0 ((some (Z 41)))) fun r1 M1 => ck (r1 = 0 ∨ r1 = 1) <| some (r1, M1)
noncomputable def b_X6_takeNumber_45 (Z : Nat → Nat) (M : gMem) (x0 : Nat) : Option (Int32 × gMem) :=
  ck (mT M x0 = 6) <| bd (f_X6_noteError M x0 ((5 : Int32))) fun _ M4 => b_X6_takeNumber_50 Z M4 x0
noncomputable def b_X6_takeNumber_0 (Z : Nat → Nat) (M : gMem) (x0 : Nat) (x1 : Int32) (x2 : Int32) : Option (Int32 × gMem) :=
  ck (mT M x0 = 6) <| bd (f_X6_sign M x0) fun r6 M6 => (if r6 = (some (Z 41)) then ck (mT M6 x0 = 6) <| dr ((mR M6 x0 1)) fun a9 => ck (mT M6 a9 = 9) <| dr ((mR M6 a9 4)) fun a11 => ck (mT M6 a11 = 21) <| ck (inb (mI M6 x0 6) (mL M6 a11)) <| lw (wI M6 x0 8 ((Int64.toInt32 (mJ M6 a11 ((mI M6 x0 6)).toNatClampNeg)))) fun M14 => (if (mI M14 x0 8) < x1 then b_X6_takeNumber_45 Z M14 x0 else (if (mI M14 x0 8) ≤ x2 then b_X6_takeNumber_50 Z M14 x0 else b_X6_takeNumber_45 Z M14 x0)) else some ((0 : Int32), M6))
noncomputable def f_X6_takeNumber (Z : Nat → Nat) (M : gMem) (x0 : Nat) (x1 : Int32) (x2 : Int32) : Option (Int32 × gMem) :=
  b_X6_takeNumber_0 Z M x0 x1 x2
set_option maxHeartbeats 4000000 in
set_option maxRecDepth 100000 in
theorem t_X6_takeNumber_50 (X : gX p s m args meth c D cy B (gSt Z B H0) RX6 cX6_takeNumber wsX6_takeNumber 3) (hr : meth.sig.returnType = (some .boolean)) {Q : State → Prop} : ∀ (M : gMem) (x0 : Nat) (z : Int32 × gMem), b_X6_takeNumber_50 Z M x0 = some z → (fun (r : Int32 × gMem) => Q = gMQ below D cy B H0 args s 0 0 (some (vI r.1)) r.2) z → gGo p l e rX6_takeNumber s m args below meth c D cy B H0 3 0 0 Q 50 [(0, vR (some x0))] [] M := sorry

set_option maxHeartbeats 4000000 in
set_option maxRecDepth 100000 in
theorem t_X6_takeNumber_45 (X : gX p s m args meth c D cy B (gSt Z B H0) RX6 cX6_takeNumber wsX6_takeNumber 3) (hr : meth.sig.returnType = (some .boolean)) {Q : State → Prop} : ∀ (M : gMem) (x0 : Nat) (z : Int32 × gMem), b_X6_takeNumber_45 Z M x0 = some z → (fun (r : Int32 × gMem) => Q = gMQ below D cy B H0 args s 0 0 (some (vI r.1)) r.2) z → gGo p l e rX6_takeNumber s m args below meth c D cy B H0 3 0 0 Q 45 [(0, vR (some x0))] [] M := sorry

set_option maxHeartbeats 4000000 in
set_option maxRecDepth 100000 in
theorem t_X6_takeNumber_0 (X : gX p s m args meth c D cy B (gSt Z B H0) RX6 cX6_takeNumber wsX6_takeNumber 3) (hr : meth.sig.returnType = (some .boolean)) {Q : State → Prop} : ∀ (M : gMem) (x0 : Nat) (x1 : Int32) (x2 : Int32) (z : Int32 × gMem), b_X6_takeNumber_0 Z M x0 x1 x2 = some z → (fun (r : Int32 × gMem) => Q = gMQ below D cy B H0 args s 0 0 (some (vI r.1)) r.2) z → gGo p l e rX6_takeNumber s m args below meth c D cy B H0 3 0 0 Q 0 [(0, vR (some x0)), (1, vI x1), (2, vI x2)] [] M := sorry

set_option maxHeartbeats 4000000 in
set_option maxRecDepth 100000 in
theorem m_X6_takeNumber (l : Launch) {D : va_G} {cy : Nat → ClassId} {B : Nat} {H0 : Heap} {Z : Nat → Nat} {M M1 : gMem} {x0 : Nat} {x1 : Int32} {x2 : Int32} {r : Int32} (hf : f_X6_takeNumber Z M x0 x1 x2 = some (r, M1)) : Met l yX6_takeNumber wsX6_takeNumber rX6_takeNumber (va_Pc (Value.ref x0 :: List.map gv [vI x1, vI x2]) (gPre D cy B H0 (gSt Z B H0) M)) (gQ D cy B H0 (some (vI r)) M1) 0 0 (gA B) := sorry

/-! ## TideLots$Reader.takeNew(LTideLots$Names;)Z -/
set_option maxRecDepth 20000 in
set_option maxRecDepth 20000 in
theorem gX6_takeNew_X6_take : GoodIn wsX6_takeNew (wsV RX6 79 RX6 yX6_take wsX6_take) := sorry

set_option maxRecDepth 20000 in
set_option maxRecDepth 20000 in
theorem gX6_takeNew_X6_sign : GoodIn wsX6_takeNew (wsV RX6 43 RX6 yX6_sign wsX6_sign) := sorry

set_option maxRecDepth 20000 in
set_option maxRecDepth 20000 in
theorem gX6_takeNew_X4_find : GoodIn wsX6_takeNew (wsV RX6 257 RX4 yX4_find wsX4_find) := sorry

set_option maxRecDepth 20000 in
set_option maxRecDepth 20000 in
theorem gX6_takeNew_X4_add : GoodIn wsX6_takeNew (wsV RX6 325 RX4 yX4_add wsX4_add) := sorry

set_option maxRecDepth 20000 in
set_option maxRecDepth 20000 in
theorem gX6_takeNew_X6_noteError : GoodIn wsX6_takeNew (wsV RX6 133 RX6 yX6_noteError wsX6_noteError) := sorry

theorem i_X6_takeNew_X6 : ∀ w ∈ u_ws RX6 TX6 9, w ∈ wsX6_takeNew := sorry

theorem i_X6_takeNew_X10 : ∀ w ∈ u_ws RX10 TX10 6, w ∈ wsX6_takeNew := sorry

abbrev rX6_takeNew : Room := { frames := 1, cells := 0, slots := 0, locals := 23 }
noncomputable def b_X6_takeNew_54 (Z : Nat → Nat) (M : gMem) (x0 : Nat) : Option (Int32 × gMem) :=
  ck (mT M x0 = 6) <| bd (f_X6_take M x0 ((some (Z 40)))) fun r1 M1 => ck (r1 = 0 ∨ r1 = 1) <| some (r1, M1)
noncomputable def b_X6_takeNew_0 (Z : Nat → Nat) (M : gMem) (x0 : Nat) (x1 : Option Nat) : Option (Int32 × gMem) :=
  ck (mT M x0 = 6) <| bd (f_X6_sign M x0) fun r4 M4 => (if r4 = (some (Z 40)) then ck (mT M4 x0 = 6) <| dr ((mR M4 x0 1)) fun a7 => ck (mT M4 a7 = 9) <| dr ((mR M4 a7 4)) fun a9 => ck (mT M4 a9 = 21) <| ck (inb (mI M4 x0 6) (mL M4 a9)) <| dr x1 fun a13 => ck (mT M4 a13 = 4) <| bd (f_X4_find M4 a13 ((mJ M4 a9 ((mI M4 x0 6)).toNatClampNeg))) fun r12 M12 => (if r12 < 0 then ck (mT M12 a13 = 4) <| bd (f_X4_add M12 a13 ((mJ M4 a9 ((mI M4 x0 6)).toNatClampNeg))) fun r15 M15 => (if r15 = 0 then ck (mT M15 x0 = 6) <| bd (f_X6_noteError M15 x0 ((4 : Int32))) fun _ M17 => b_X6_takeNew_54 Z M17 x0 else b_X6_takeNew_54 Z M15 x0) else ck (mT M12 x0 = 6) <| bd (f_X6_noteError M12 x0 ((2 : Int32))) fun _ M19 => b_X6_takeNew_54 Z M19 x0) else some ((0 : Int32), M4))
noncomputable def f_X6_takeNew (Z : Nat → Nat) (M : gMem) (x0 : Nat) (x1 : Option Nat) : Option (Int32 × gMem) :=
  b_X6_takeNew_0 Z M x0 x1
set_option maxHeartbeats 4000000 in
set_option maxRecDepth 100000 in
theorem t_X6_takeNew_54 (X : gX p s m args meth c D cy B (gSt Z B H0) RX6 cX6_takeNew wsX6_takeNew 4) (hr : meth.sig.returnType = (some .boolean)) {Q : State → Prop} : ∀ (M : gMem) (x0 : Nat) (z : Int32 × gMem), b_X6_takeNew_54 Z M x0 = some z → (fun (r : Int32 × gMem) => Q = gMQ below D cy B H0 args s 0 0 (some (vI r.1)) r.2) z → gGo p l e rX6_takeNew s m args below meth c D cy B H0 4 0 0 Q 54 [(0, vR (some x0))] [] M := sorry

set_option maxHeartbeats 4000000 in
set_option maxRecDepth 100000 in
theorem t_X6_takeNew_0 (X : gX p s m args meth c D cy B (gSt Z B H0) RX6 cX6_takeNew wsX6_takeNew 4) (hr : meth.sig.returnType = (some .boolean)) {Q : State → Prop} : ∀ (M : gMem) (x0 : Nat) (x1 : Option Nat) (z : Int32 × gMem), b_X6_takeNew_0 Z M x0 x1 = some z → (fun (r : Int32 × gMem) => Q = gMQ below D cy B H0 args s 0 0 (some (vI r.1)) r.2) z → gGo p l e rX6_takeNew s m args below meth c D cy B H0 4 0 0 Q 0 [(0, vR (some x0)), (1, vR x1)] [] M := sorry

set_option maxHeartbeats 4000000 in
set_option maxRecDepth 100000 in
theorem m_X6_takeNew (l : Launch) {D : va_G} {cy : Nat → ClassId} {B : Nat} {H0 : Heap} {Z : Nat → Nat} {M M1 : gMem} {x0 : Nat} {x1 : Option Nat} {r : Int32} (hf : f_X6_takeNew Z M x0 x1 = some (r, M1)) : Met l yX6_takeNew wsX6_takeNew rX6_takeNew (va_Pc (Value.ref x0 :: List.map gv [vR x1]) (gPre D cy B H0 (gSt Z B H0) M)) (gQ D cy B H0 (some (vI r)) M1) 0 0 (gA B) := sorry

/-! ## TideLots$Reader.takeKnown(LTideLots$Names;)Z -/
set_option maxRecDepth 20000 in
set_option maxRecDepth 20000 in
theorem gX6_takeKnown_X6_take : GoodIn wsX6_takeKnown (wsV RX6 79 RX6 yX6_take wsX6_take) := sorry

set_option maxRecDepth 20000 in
set_option maxRecDepth 20000 in
theorem gX6_takeKnown_X6_sign : GoodIn wsX6_takeKnown (wsV RX6 43 RX6 yX6_sign wsX6_sign) := sorry

set_option maxRecDepth 20000 in
set_option maxRecDepth 20000 in
theorem gX6_takeKnown_X4_find : GoodIn wsX6_takeKnown (wsV RX6 257 RX4 yX4_find wsX4_find) := sorry

set_option maxRecDepth 20000 in
set_option maxRecDepth 20000 in
theorem gX6_takeKnown_X6_noteError : GoodIn wsX6_takeKnown (wsV RX6 133 RX6 yX6_noteError wsX6_noteError) := sorry

theorem i_X6_takeKnown_X6 : ∀ w ∈ u_ws RX6 TX6 9, w ∈ wsX6_takeKnown := sorry

theorem i_X6_takeKnown_X10 : ∀ w ∈ u_ws RX10 TX10 6, w ∈ wsX6_takeKnown := sorry

abbrev rX6_takeKnown : Room := { frames := 1, cells := 0, slots := 0, locals := 23 }
noncomputable def b_X6_takeKnown_49 (Z : Nat → Nat) (M : gMem) (x0 : Nat) : Option (Int32 × gMem) :=
  ck (mT M x0 = 6) <| bd (f_X6_take M x0 ((some (Z 40)))) fun r1 M1 => ck (r1 = 0 ∨ r1 = 1) <| some (r1, M1)
noncomputable def b_X6_takeKnown_0 (Z : Nat → Nat) (M : gMem) (x0 : Nat) (x1 : Option Nat) : Option (Int32 × gMem) :=
  ck (mT M x0 = 6) <| bd (f_X6_sign M x0) fun r4 M4 => (if r4 = (some (Z 40)) then ck (mT M4 x0 = 6) <| dr ((mR M4 x0 1)) fun a7 => ck (mT M4 a7 = 9) <| dr ((mR M4 a7 4)) fun a9 => ck (mT M4 a9 = 21) <| ck (inb (mI M4 x0 6) (mL M4 a9)) <| dr x1 fun a13 => ck (mT M4 a13 = 4) <| bd (f_X4_find M4 a13 ((mJ M4 a9 ((mI M4 x0 6)).toNatClampNeg))) fun r12 M12 => ck (mT M12 x0 = 6) <| lw (wI M12 x0 8 r12) fun M16 => (if 0 ≤ (mI M16 x0 8) then b_X6_takeKnown_49 Z M16 x0 else bd (f_X6_noteError M16 x0 ((3 : Int32))) fun _ M18 => ck (mT M18 x0 = 6) <| lw (wI M18 x0 8 ((0 : Int32))) fun M20 => b_X6_takeKnown_49 Z M20 x0) else some ((0 : Int32), M4))
noncomputable def f_X6_takeKnown (Z : Nat → Nat) (M : gMem) (x0 : Nat) (x1 : Option Nat) : Option (Int32 × gMem) :=
  b_X6_takeKnown_0 Z M x0 x1
set_option maxHeartbeats 4000000 in
set_option maxRecDepth 100000 in
theorem t_X6_takeKnown_49 (X : gX p s m args meth c D cy B (gSt Z B H0) RX6 cX6_takeKnown wsX6_takeKnown 2) (hr : meth.sig.returnType = (some .boolean)) {Q : State → Prop} : ∀ (M : gMem) (x0 : Nat) (z : Int32 × gMem), b_X6_takeKnown_49 Z M x0 = some z → (fun (r : Int32 × gMem) => Q = gMQ below D cy B H0 args s 0 0 (some (vI r.1)) r.2) z → gGo p l e rX6_takeKnown s m args below meth c D cy B H0 2 0 0 Q 49 [(0, vR (some x0))] [] M := sorry

set_option maxHeartbeats 4000000 in
set_option maxRecDepth 100000 in
theorem t_X6_takeKnown_0 (X : gX p s m args meth c D cy B (gSt Z B H0) RX6 cX6_takeKnown wsX6_takeKnown 2) (hr : meth.sig.returnType = (some .boolean)) {Q : State → Prop} : ∀ (M : gMem) (x0 : Nat) (x1 : Option Nat) (z : Int32 × gMem), b_X6_takeKnown_0 Z M x0 x1 = some z → (fun (r : Int32 × gMem) => Q = gMQ below D cy B H0 args s 0 0 (some (vI r.1)) r.2) z → gGo p l e rX6_takeKnown s m args below meth c D cy B H0 2 0 0 Q 0 [(0, vR (some x0)), (1, vR x1)] [] M := sorry

set_option maxHeartbeats 4000000 in
set_option maxRecDepth 100000 in
theorem m_X6_takeKnown (l : Launch) {D : va_G} {cy : Nat → ClassId} {B : Nat} {H0 : Heap} {Z : Nat → Nat} {M M1 : gMem} {x0 : Nat} {x1 : Option Nat} {r : Int32} (hf : f_X6_takeKnown Z M x0 x1 = some (r, M1)) : Met l yX6_takeKnown wsX6_takeKnown rX6_takeKnown (va_Pc (Value.ref x0 :: List.map gv [vR x1]) (gPre D cy B H0 (gSt Z B H0) M)) (gQ D cy B H0 (some (vI r)) M1) 0 0 (gA B) := sorry

/-! ## TideLots$Reader.takeFish(ILTideLots$Ground;)Z -/
set_option maxRecDepth 20000 in
set_option maxRecDepth 20000 in
theorem gX6_takeFish_X6_takeNumber : GoodIn wsX6_takeFish (wsV RX6 108 RX6 yX6_takeNumber wsX6_takeNumber) := sorry

set_option maxRecDepth 20000 in
set_option maxRecDepth 20000 in
theorem gX6_takeFish_X6_sign : GoodIn wsX6_takeFish (wsV RX6 43 RX6 yX6_sign wsX6_sign) := sorry

set_option maxRecDepth 20000 in
set_option maxRecDepth 20000 in
theorem gX6_takeFish_X6_noteError : GoodIn wsX6_takeFish (wsV RX6 133 RX6 yX6_noteError wsX6_noteError) := sorry

theorem i_X6_takeFish_X3 : ∀ w ∈ u_ws RX3 TX3 4, w ∈ wsX6_takeFish := sorry

theorem i_X6_takeFish_X6 : ∀ w ∈ u_ws RX6 TX6 9, w ∈ wsX6_takeFish := sorry

abbrev rX6_takeFish : Room := { frames := 2, cells := 0, slots := 0, locals := 43 }
noncomputable def b_X6_takeFish_47 (Z : Nat → Nat) (M : gMem)  : Option (Int32 × gMem) :=
  some ((1 : Int32), M)
noncomputable def b_X6_takeFish_20 (Z : Nat → Nat) (M : gMem) (x0 : Nat) (x1 : Int32) (x2 : Option Nat) : Option (Int32 × gMem) :=
  ck (mT M x0 = 6) <| bd (f_X6_takeNumber Z M x0 ((0 : Int32)) ((99 : Int32))) fun r1 M1 => (if r1 = 0 then some ((0 : Int32), M1) else (if (5 : Int32) < x1 then b_X6_takeFish_47 Z M1  else dr x2 fun a3 => ck (mT M1 a3 = 3) <| ck (mT M1 x0 = 6) <| dr ((mR M1 a3 3)) fun a6 => ck (mT M1 a6 = 20) <| ck (inb x1 (mL M1 a6)) <| lw (wI M1 a6 x1.toNatClampNeg ((mI M1 x0 8))) fun M9 => b_X6_takeFish_47 Z M9 ))
noncomputable def b_X6_takeFish_0 (Z : Nat → Nat) (M : gMem) (x0 : Nat) (x1 : Int32) (x2 : Option Nat) : Option (Int32 × gMem) :=
  ck (mT M x0 = 6) <| bd (f_X6_sign M x0) fun r13 M13 => (if r13 = (some (Z 41)) then (if x1 ≤ (5 : Int32) then b_X6_takeFish_20 Z M13 x0 x1 x2 else ck (mT M13 x0 = 6) <| bd (f_X6_noteError M13 x0 ((4 : Int32))) fun _ M15 => b_X6_takeFish_20 Z M15 x0 x1 x2) else b_X6_takeFish_20 Z M13 x0 x1 x2)
noncomputable def f_X6_takeFish (Z : Nat → Nat) (M : gMem) (x0 : Nat) (x1 : Int32) (x2 : Option Nat) : Option (Int32 × gMem) :=
  b_X6_takeFish_0 Z M x0 x1 x2
set_option maxHeartbeats 4000000 in
set_option maxRecDepth 100000 in
theorem t_X6_takeFish_47 (X : gX p s m args meth c D cy B (gSt Z B H0) RX6 cX6_takeFish wsX6_takeFish 3) (hr : meth.sig.returnType = (some .boolean)) {Q : State → Prop} : ∀ (M : gMem)  (z : Int32 × gMem), b_X6_takeFish_47 Z M  = some z → (fun (r : Int32 × gMem) => Q = gMQ below D cy B H0 args s 0 0 (some (vI r.1)) r.2) z → gGo p l e rX6_takeFish s m args below meth c D cy B H0 3 0 0 Q 47 [] [] M := sorry

set_option maxHeartbeats 4000000 in
set_option maxRecDepth 100000 in
theorem t_X6_takeFish_20 (X : gX p s m args meth c D cy B (gSt Z B H0) RX6 cX6_takeFish wsX6_takeFish 3) (hr : meth.sig.returnType = (some .boolean)) {Q : State → Prop} : ∀ (M : gMem) (x0 : Nat) (x1 : Int32) (x2 : Option Nat) (z : Int32 × gMem), b_X6_takeFish_20 Z M x0 x1 x2 = some z → (fun (r : Int32 × gMem) => Q = gMQ below D cy B H0 args s 0 0 (some (vI r.1)) r.2) z → gGo p l e rX6_takeFish s m args below meth c D cy B H0 3 0 0 Q 20 [(0, vR (some x0)), (1, vI x1), (2, vR x2)] [] M := sorry

set_option maxHeartbeats 4000000 in
set_option maxRecDepth 100000 in
theorem t_X6_takeFish_0 (X : gX p s m args meth c D cy B (gSt Z B H0) RX6 cX6_takeFish wsX6_takeFish 3) (hr : meth.sig.returnType = (some .boolean)) {Q : State → Prop} : ∀ (M : gMem) (x0 : Nat) (x1 : Int32) (x2 : Option Nat) (z : Int32 × gMem), b_X6_takeFish_0 Z M x0 x1 x2 = some z → (fun (r : Int32 × gMem) => Q = gMQ below D cy B H0 args s 0 0 (some (vI r.1)) r.2) z → gGo p l e rX6_takeFish s m args below meth c D cy B H0 3 0 0 Q 0 [(0, vR (some x0)), (1, vI x1), (2, vR x2)] [] M := sorry

set_option maxHeartbeats 4000000 in
set_option maxRecDepth 100000 in
theorem m_X6_takeFish (l : Launch) {D : va_G} {cy : Nat → ClassId} {B : Nat} {H0 : Heap} {Z : Nat → Nat} {M M1 : gMem} {x0 : Nat} {x1 : Int32} {x2 : Option Nat} {r : Int32} (hf : f_X6_takeFish Z M x0 x1 x2 = some (r, M1)) : Met l yX6_takeFish wsX6_takeFish rX6_takeFish (va_Pc (Value.ref x0 :: List.map gv [vI x1, vR x2]) (gPre D cy B H0 (gSt Z B H0) M)) (gQ D cy B H0 (some (vI r)) M1) 0 0 (gA B) := sorry

/-! ## TideLots$Reader.takeMember(LTideLots$Pact;)Z -/
set_option maxRecDepth 20000 in
set_option maxRecDepth 20000 in
theorem gX6_takeMember_X6_takeKnown : GoodIn wsX6_takeMember (wsV RX6 179 RX6 yX6_takeKnown wsX6_takeKnown) := sorry

set_option maxRecDepth 20000 in
set_option maxRecDepth 20000 in
theorem gX6_takeMember_X5_add : GoodIn wsX6_takeMember (wsV RX6 264 RX5 yX5_add wsX5_add) := sorry

set_option maxRecDepth 20000 in
set_option maxRecDepth 20000 in
theorem gX6_takeMember_X6_sign : GoodIn wsX6_takeMember (wsV RX6 43 RX6 yX6_sign wsX6_sign) := sorry

set_option maxRecDepth 20000 in
set_option maxRecDepth 20000 in
theorem gX6_takeMember_X4_find : GoodIn wsX6_takeMember (wsV RX6 257 RX4 yX4_find wsX4_find) := sorry

set_option maxRecDepth 20000 in
set_option maxRecDepth 20000 in
theorem gX6_takeMember_X5_has : GoodIn wsX6_takeMember (wsV RX6 261 RX5 yX5_has wsX5_has) := sorry

set_option maxRecDepth 20000 in
set_option maxRecDepth 20000 in
theorem gX6_takeMember_X6_noteError : GoodIn wsX6_takeMember (wsV RX6 133 RX6 yX6_noteError wsX6_noteError) := sorry

theorem i_X6_takeMember_X6 : ∀ w ∈ u_ws RX6 TX6 9, w ∈ wsX6_takeMember := sorry

theorem i_X6_takeMember_X10 : ∀ w ∈ u_ws RX10 TX10 6, w ∈ wsX6_takeMember := sorry

abbrev rX6_takeMember : Room := { frames := 2, cells := 0, slots := 0, locals := 44 }
noncomputable def b_X6_takeMember_42 (Z : Nat → Nat) (M : gMem) (x0 : Nat) (x1 : Option Nat) : Option (Int32 × gMem) :=
  ck (mT M x0 = 6) <| bd (f_X6_takeKnown Z M x0 ((mR M x0 4))) fun r2 M2 => (if r2 = 0 then some ((0 : Int32), M2) else ck (mT M2 x0 = 6) <| dr x1 fun a5 => ck (mT M2 a5 = 5) <| bd (f_X5_add M2 a5 ((mI M2 x0 8))) fun _ M4 => some ((1 : Int32), M4))
noncomputable def b_X6_takeMember_0 (Z : Nat → Nat) (M : gMem) (x0 : Nat) (x1 : Option Nat) : Option (Int32 × gMem) :=
  ck (mT M x0 = 6) <| bd (f_X6_sign M x0) fun r7 M7 => (if r7 = (some (Z 40)) then ck (mT M7 x0 = 6) <| dr ((mR M7 x0 1)) fun a10 => ck (mT M7 a10 = 9) <| dr ((mR M7 a10 4)) fun a12 => ck (mT M7 a12 = 21) <| ck (inb (mI M7 x0 6) (mL M7 a12)) <| dr ((mR M7 x0 4)) fun a16 => ck (mT M7 a16 = 4) <| bd (f_X4_find M7 a16 ((mJ M7 a12 ((mI M7 x0 6)).toNatClampNeg))) fun r15 M15 => dr x1 fun a19 => ck (mT M15 a19 = 5) <| bd (f_X5_has M15 a19 r15) fun r18 M18 => (if r18 = 0 then b_X6_takeMember_42 Z M18 x0 x1 else ck (mT M18 x0 = 6) <| bd (f_X6_noteError M18 x0 ((6 : Int32))) fun _ M21 => b_X6_takeMember_42 Z M21 x0 x1) else b_X6_takeMember_42 Z M7 x0 x1)
noncomputable def f_X6_takeMember (Z : Nat → Nat) (M : gMem) (x0 : Nat) (x1 : Option Nat) : Option (Int32 × gMem) :=
  b_X6_takeMember_0 Z M x0 x1
set_option maxHeartbeats 4000000 in
set_option maxRecDepth 100000 in
theorem t_X6_takeMember_42 (X : gX p s m args meth c D cy B (gSt Z B H0) RX6 cX6_takeMember wsX6_takeMember 2) (hr : meth.sig.returnType = (some .boolean)) {Q : State → Prop} : ∀ (M : gMem) (x0 : Nat) (x1 : Option Nat) (z : Int32 × gMem), b_X6_takeMember_42 Z M x0 x1 = some z → (fun (r : Int32 × gMem) => Q = gMQ below D cy B H0 args s 0 0 (some (vI r.1)) r.2) z → gGo p l e rX6_takeMember s m args below meth c D cy B H0 2 0 0 Q 42 [(0, vR (some x0)), (1, vR x1)] [] M := sorry

set_option maxHeartbeats 4000000 in
set_option maxRecDepth 100000 in
theorem t_X6_takeMember_0 (X : gX p s m args meth c D cy B (gSt Z B H0) RX6 cX6_takeMember wsX6_takeMember 2) (hr : meth.sig.returnType = (some .boolean)) {Q : State → Prop} : ∀ (M : gMem) (x0 : Nat) (x1 : Option Nat) (z : Int32 × gMem), b_X6_takeMember_0 Z M x0 x1 = some z → (fun (r : Int32 × gMem) => Q = gMQ below D cy B H0 args s 0 0 (some (vI r.1)) r.2) z → gGo p l e rX6_takeMember s m args below meth c D cy B H0 2 0 0 Q 0 [(0, vR (some x0)), (1, vR x1)] [] M := sorry

set_option maxHeartbeats 4000000 in
set_option maxRecDepth 100000 in
theorem m_X6_takeMember (l : Launch) {D : va_G} {cy : Nat → ClassId} {B : Nat} {H0 : Heap} {Z : Nat → Nat} {M M1 : gMem} {x0 : Nat} {x1 : Option Nat} {r : Int32} (hf : f_X6_takeMember Z M x0 x1 = some (r, M1)) : Met l yX6_takeMember wsX6_takeMember rX6_takeMember (va_Pc (Value.ref x0 :: List.map gv [vR x1]) (gPre D cy B H0 (gSt Z B H0) M)) (gQ D cy B H0 (some (vI r)) M1) 0 0 (gA B) := sorry

/-! ## TideLots$Reader.groundLine()Z -/
set_option maxRecDepth 20000 in
set_option maxRecDepth 20000 in
theorem gX6_groundLine_X6_take : GoodIn wsX6_groundLine (wsV RX6 79 RX6 yX6_take wsX6_take) := sorry

set_option maxRecDepth 20000 in
set_option maxRecDepth 20000 in
theorem gX6_groundLine_X6_takeFish : GoodIn wsX6_groundLine (wsV RX6 123 RX6 yX6_takeFish wsX6_takeFish) := sorry

set_option maxRecDepth 20000 in
set_option maxRecDepth 20000 in
theorem gX6_groundLine_X6_takeNew : GoodIn wsX6_groundLine (wsV RX6 97 RX6 yX6_takeNew wsX6_takeNew) := sorry

set_option maxRecDepth 20000 in
set_option maxRecDepth 20000 in
theorem gX6_groundLine_X7_nextGround : GoodIn wsX6_groundLine (wsV RX6 101 RX7 yX7_nextGround wsX7_nextGround) := sorry

set_option maxRecDepth 20000 in
set_option maxRecDepth 20000 in
theorem gX6_groundLine_X6_takeNumber : GoodIn wsX6_groundLine (wsV RX6 108 RX6 yX6_takeNumber wsX6_takeNumber) := sorry

theorem i_X6_groundLine_X6 : ∀ w ∈ u_ws RX6 TX6 9, w ∈ wsX6_groundLine := sorry

theorem i_X6_groundLine_X3 : ∀ w ∈ u_ws RX3 TX3 4, w ∈ wsX6_groundLine := sorry

abbrev rX6_groundLine : Room := { frames := 3, cells := 0, slots := 0, locals := 65 }
noncomputable def b_X6_groundLine_118 (Z : Nat → Nat) (M : gMem)  : Option (Int32 × gMem) :=
  some ((1 : Int32), M)
noncomputable def bb_X6_groundLine_84 (Z : Nat → Nat) (M : gMem) (x0 : Nat) (x1 : Option Nat) (x2 : Int32) : Option ((gMem × Int32) ⊕ (Int32 × gMem)) :=
  (if (400 : Int32) < x2 then oI (b_X6_groundLine_118 Z M ) else ck (mT M x0 = 6) <| bd (f_X6_take M x0 ((some (Z 30)))) fun r2 M2 => (if r2 = 0 then oI (b_X6_groundLine_118 Z M2 ) else ck (mT M2 x0 = 6) <| bd (f_X6_takeFish Z M2 x0 x2 x1) fun r5 M5 => (if r5 = 0 then oI (some ((0 : Int32), M5)) else some (.inl (M5, (x2 + (1 : Int32)))))))
noncomputable def lp_X6_groundLine_84 (Z : Nat → Nat) (M : gMem) (x0 : Nat) (x1 : Option Nat) (x2 : Int32) : Option (Int32 × gMem) :=
  lp (fun (q : gMem × Int32) => bb_X6_groundLine_84 Z q.1 x0 x1 q.2) (M, x2)
noncomputable def b_X6_groundLine_80 (Z : Nat → Nat) (M : gMem)  : Option (Int32 × gMem) :=
  some ((0 : Int32), M)
noncomputable def b_X6_groundLine_51 (Z : Nat → Nat) (M : gMem)  : Option (Int32 × gMem) :=
  some ((0 : Int32), M)
noncomputable def b_X6_groundLine_21 (Z : Nat → Nat) (M : gMem)  : Option (Int32 × gMem) :=
  some ((0 : Int32), M)
noncomputable def b_X6_groundLine_0 (Z : Nat → Nat) (M : gMem) (x0 : Nat) : Option (Int32 × gMem) :=
  ck (mT M x0 = 6) <| bd (f_X6_take M x0 ((some (Z 0)))) fun r8 M8 => (if r8 = 0 then b_X6_groundLine_21 Z M8  else ck (mT M8 x0 = 6) <| bd (f_X6_takeNew Z M8 x0 ((mR M8 x0 3))) fun r11 M11 => (if r11 = 0 then b_X6_groundLine_21 Z M11  else ck (mT M11 x0 = 6) <| dr ((mR M11 x0 2)) fun a14 => ck (mT M11 a14 = 7) <| bd (f_X7_nextGround M11 a14) fun r13 M13 => ck (mT M13 x0 = 6) <| bd (f_X6_take M13 x0 ((some (Z 1)))) fun r16 M16 => (if r16 = 0 then b_X6_groundLine_51 Z M16  else ck (mT M16 x0 = 6) <| bd (f_X6_takeNumber Z M16 x0 ((1 : Int32)) ((8 : Int32))) fun r18 M18 => (if r18 = 0 then b_X6_groundLine_51 Z M18  else ck (mT M18 x0 = 6) <| dr r13 fun a21 => ck (mT M18 a21 = 3) <| lw (wI M18 a21 0 ((mI M18 x0 8))) fun M23 => bd (f_X6_take M23 x0 ((some (Z 2)))) fun r26 M26 => (if r26 = 0 then b_X6_groundLine_80 Z M26  else ck (mT M26 x0 = 6) <| bd (f_X6_takeFish Z M26 x0 ((1 : Int32)) r13) fun r27 M27 => (if r27 = 0 then b_X6_groundLine_80 Z M27  else lp_X6_groundLine_84 Z M27 x0 r13 ((2 : Int32))))))))
noncomputable def f_X6_groundLine (Z : Nat → Nat) (M : gMem) (x0 : Nat) : Option (Int32 × gMem) :=
  b_X6_groundLine_0 Z M x0
set_option maxHeartbeats 4000000 in
set_option maxRecDepth 100000 in
theorem t_X6_groundLine_118 (X : gX p s m args meth c D cy B (gSt Z B H0) RX6 cX6_groundLine wsX6_groundLine 3) (hr : meth.sig.returnType = (some .boolean)) {Q : State → Prop} : ∀ (M : gMem)  (z : Int32 × gMem), b_X6_groundLine_118 Z M  = some z → (fun (r : Int32 × gMem) => Q = gMQ below D cy B H0 args s 0 0 (some (vI r.1)) r.2) z → gGo p l e rX6_groundLine s m args below meth c D cy B H0 3 0 0 Q 118 [] [] M := sorry

set_option maxHeartbeats 4000000 in
set_option maxRecDepth 100000 in
set_option maxHeartbeats 4000000 in
set_option maxRecDepth 100000 in
set_option maxHeartbeats 4000000 in
set_option maxRecDepth 100000 in
theorem t_X6_groundLine_80 (X : gX p s m args meth c D cy B (gSt Z B H0) RX6 cX6_groundLine wsX6_groundLine 3) (hr : meth.sig.returnType = (some .boolean)) {Q : State → Prop} : ∀ (M : gMem)  (z : Int32 × gMem), b_X6_groundLine_80 Z M  = some z → (fun (r : Int32 × gMem) => Q = gMQ below D cy B H0 args s 0 0 (some (vI r.1)) r.2) z → gGo p l e rX6_groundLine s m args below meth c D cy B H0 3 0 0 Q 80 [] [] M := sorry

set_option maxHeartbeats 4000000 in
set_option maxRecDepth 100000 in
theorem t_X6_groundLine_51 (X : gX p s m args meth c D cy B (gSt Z B H0) RX6 cX6_groundLine wsX6_groundLine 3) (hr : meth.sig.returnType = (some .boolean)) {Q : State → Prop} : ∀ (M : gMem)  (z : Int32 × gMem), b_X6_groundLine_51 Z M  = some z → (fun (r : Int32 × gMem) => Q = gMQ below D cy B H0 args s 0 0 (some (vI r.1)) r.2) z → gGo p l e rX6_groundLine s m args below meth c D cy B H0 3 0 0 Q 51 [] [] M := sorry

set_option maxHeartbeats 4000000 in
set_option maxRecDepth 100000 in
theorem t_X6_groundLine_21 (X : gX p s m args meth c D cy B (gSt Z B H0) RX6 cX6_groundLine wsX6_groundLine 3) (hr : meth.sig.returnType = (some .boolean)) {Q : State → Prop} : ∀ (M : gMem)  (z : Int32 × gMem), b_X6_groundLine_21 Z M  = some z → (fun (r : Int32 × gMem) => Q = gMQ below D cy B H0 args s 0 0 (some (vI r.1)) r.2) z → gGo p l e rX6_groundLine s m args below meth c D cy B H0 3 0 0 Q 21 [] [] M := sorry

set_option maxHeartbeats 4000000 in
set_option maxRecDepth 100000 in
theorem t_X6_groundLine_0 (X : gX p s m args meth c D cy B (gSt Z B H0) RX6 cX6_groundLine wsX6_groundLine 3) (hr : meth.sig.returnType = (some .boolean)) {Q : State → Prop} : ∀ (M : gMem) (x0 : Nat) (z : Int32 × gMem), b_X6_groundLine_0 Z M x0 = some z → (fun (r : Int32 × gMem) => Q = gMQ below D cy B H0 args s 0 0 (some (vI r.1)) r.2) z → gGo p l e rX6_groundLine s m args below meth c D cy B H0 3 0 0 Q 0 [(0, vR (some x0))] [] M := sorry

set_option maxHeartbeats 4000000 in
set_option maxRecDepth 100000 in
theorem m_X6_groundLine (l : Launch) {D : va_G} {cy : Nat → ClassId} {B : Nat} {H0 : Heap} {Z : Nat → Nat} {M M1 : gMem} {x0 : Nat} {r : Int32} (hf : f_X6_groundLine Z M x0 = some (r, M1)) : Met l yX6_groundLine wsX6_groundLine rX6_groundLine (va_Pc (Value.ref x0 :: List.map gv []) (gPre D cy B H0 (gSt Z B H0) M)) (gQ D cy B H0 (some (vI r)) M1) 0 0 (gA B) := sorry

/-! ## TideLots$Reader.fisherLine()Z -/
set_option maxRecDepth 20000 in
set_option maxRecDepth 20000 in
theorem gX6_fisherLine_X6_take : GoodIn wsX6_fisherLine (wsV RX6 79 RX6 yX6_take wsX6_take) := sorry

set_option maxRecDepth 20000 in
set_option maxRecDepth 20000 in
theorem gX6_fisherLine_X6_takeNew : GoodIn wsX6_fisherLine (wsV RX6 97 RX6 yX6_takeNew wsX6_takeNew) := sorry

set_option maxRecDepth 20000 in
set_option maxRecDepth 20000 in
theorem gX6_fisherLine_X7_nextFisher : GoodIn wsX6_fisherLine (wsV RX6 142 RX7 yX7_nextFisher wsX7_nextFisher) := sorry

set_option maxRecDepth 20000 in
set_option maxRecDepth 20000 in
theorem gX6_fisherLine_X6_takeNumber : GoodIn wsX6_fisherLine (wsV RX6 108 RX6 yX6_takeNumber wsX6_takeNumber) := sorry

theorem i_X6_fisherLine_X6 : ∀ w ∈ u_ws RX6 TX6 9, w ∈ wsX6_fisherLine := sorry

theorem i_X6_fisherLine_X1 : ∀ w ∈ u_ws RX1 TX1 11, w ∈ wsX6_fisherLine := sorry

abbrev rX6_fisherLine : Room := { frames := 2, cells := 0, slots := 0, locals := 46 }
noncomputable def b_X6_fisherLine_118 (Z : Nat → Nat) (M : gMem)  : Option (Int32 × gMem) :=
  some ((0 : Int32), M)
noncomputable def b_X6_fisherLine_88 (Z : Nat → Nat) (M : gMem)  : Option (Int32 × gMem) :=
  some ((0 : Int32), M)
noncomputable def b_X6_fisherLine_50 (Z : Nat → Nat) (M : gMem)  : Option (Int32 × gMem) :=
  some ((0 : Int32), M)
noncomputable def b_X6_fisherLine_21 (Z : Nat → Nat) (M : gMem)  : Option (Int32 × gMem) :=
  some ((0 : Int32), M)
noncomputable def b_X6_fisherLine_0 (Z : Nat → Nat) (M : gMem) (x0 : Nat) : Option (Int32 × gMem) :=
  ck (mT M x0 = 6) <| bd (f_X6_take M x0 ((some (Z 3)))) fun r1 M1 => (if r1 = 0 then b_X6_fisherLine_21 Z M1  else ck (mT M1 x0 = 6) <| bd (f_X6_takeNew Z M1 x0 ((mR M1 x0 4))) fun r4 M4 => (if r4 = 0 then b_X6_fisherLine_21 Z M4  else ck (mT M4 x0 = 6) <| dr ((mR M4 x0 2)) fun a7 => ck (mT M4 a7 = 7) <| bd (f_X7_nextFisher M4 a7) fun r6 M6 => ck (mT M6 x0 = 6) <| bd (f_X6_take M6 x0 ((some (Z 4)))) fun r9 M9 => (if r9 = 0 then b_X6_fisherLine_50 Z M9  else ck (mT M9 x0 = 6) <| bd (f_X6_takeNumber Z M9 x0 ((1 : Int32)) ((5 : Int32))) fun r11 M11 => (if r11 = 0 then b_X6_fisherLine_50 Z M11  else ck (mT M11 x0 = 6) <| dr r6 fun a14 => ck (mT M11 a14 = 1) <| lw (wI M11 a14 0 ((mI M11 x0 8))) fun M16 => lw (wI M16 a14 1 ((mI M16 x0 8))) fun M19 => bd (f_X6_take M19 x0 ((some (Z 5)))) fun r22 M22 => (if r22 = 0 then b_X6_fisherLine_88 Z M22  else ck (mT M22 x0 = 6) <| bd (f_X6_takeNumber Z M22 x0 ((1 : Int32)) ((99 : Int32))) fun r23 M23 => (if r23 = 0 then b_X6_fisherLine_88 Z M23  else ck (mT M23 x0 = 6) <| ck (mT M23 a14 = 1) <| lw (wI M23 a14 2 ((mI M23 x0 8))) fun M27 => bd (f_X6_take M27 x0 ((some (Z 6)))) fun r30 M30 => (if r30 = 0 then b_X6_fisherLine_118 Z M30  else ck (mT M30 x0 = 6) <| bd (f_X6_takeNumber Z M30 x0 ((1 : Int32)) ((40 : Int32))) fun r31 M31 => (if r31 = 0 then b_X6_fisherLine_118 Z M31  else ck (mT M31 x0 = 6) <| ck (mT M31 a14 = 1) <| lw (wI M31 a14 3 ((mI M31 x0 8))) fun M35 => some ((1 : Int32), M35)))))))))
noncomputable def f_X6_fisherLine (Z : Nat → Nat) (M : gMem) (x0 : Nat) : Option (Int32 × gMem) :=
  b_X6_fisherLine_0 Z M x0
set_option maxHeartbeats 4000000 in
set_option maxRecDepth 100000 in
theorem t_X6_fisherLine_118 (X : gX p s m args meth c D cy B (gSt Z B H0) RX6 cX6_fisherLine wsX6_fisherLine 2) (hr : meth.sig.returnType = (some .boolean)) {Q : State → Prop} : ∀ (M : gMem)  (z : Int32 × gMem), b_X6_fisherLine_118 Z M  = some z → (fun (r : Int32 × gMem) => Q = gMQ below D cy B H0 args s 0 0 (some (vI r.1)) r.2) z → gGo p l e rX6_fisherLine s m args below meth c D cy B H0 2 0 0 Q 118 [] [] M := sorry

set_option maxHeartbeats 4000000 in
set_option maxRecDepth 100000 in
theorem t_X6_fisherLine_88 (X : gX p s m args meth c D cy B (gSt Z B H0) RX6 cX6_fisherLine wsX6_fisherLine 2) (hr : meth.sig.returnType = (some .boolean)) {Q : State → Prop} : ∀ (M : gMem)  (z : Int32 × gMem), b_X6_fisherLine_88 Z M  = some z → (fun (r : Int32 × gMem) => Q = gMQ below D cy B H0 args s 0 0 (some (vI r.1)) r.2) z → gGo p l e rX6_fisherLine s m args below meth c D cy B H0 2 0 0 Q 88 [] [] M := sorry

set_option maxHeartbeats 4000000 in
set_option maxRecDepth 100000 in
theorem t_X6_fisherLine_50 (X : gX p s m args meth c D cy B (gSt Z B H0) RX6 cX6_fisherLine wsX6_fisherLine 2) (hr : meth.sig.returnType = (some .boolean)) {Q : State → Prop} : ∀ (M : gMem)  (z : Int32 × gMem), b_X6_fisherLine_50 Z M  = some z → (fun (r : Int32 × gMem) => Q = gMQ below D cy B H0 args s 0 0 (some (vI r.1)) r.2) z → gGo p l e rX6_fisherLine s m args below meth c D cy B H0 2 0 0 Q 50 [] [] M := sorry

set_option maxHeartbeats 4000000 in
set_option maxRecDepth 100000 in
theorem t_X6_fisherLine_21 (X : gX p s m args meth c D cy B (gSt Z B H0) RX6 cX6_fisherLine wsX6_fisherLine 2) (hr : meth.sig.returnType = (some .boolean)) {Q : State → Prop} : ∀ (M : gMem)  (z : Int32 × gMem), b_X6_fisherLine_21 Z M  = some z → (fun (r : Int32 × gMem) => Q = gMQ below D cy B H0 args s 0 0 (some (vI r.1)) r.2) z → gGo p l e rX6_fisherLine s m args below meth c D cy B H0 2 0 0 Q 21 [] [] M := sorry

set_option maxHeartbeats 4000000 in
set_option maxRecDepth 100000 in
theorem t_X6_fisherLine_0 (X : gX p s m args meth c D cy B (gSt Z B H0) RX6 cX6_fisherLine wsX6_fisherLine 2) (hr : meth.sig.returnType = (some .boolean)) {Q : State → Prop} : ∀ (M : gMem) (x0 : Nat) (z : Int32 × gMem), b_X6_fisherLine_0 Z M x0 = some z → (fun (r : Int32 × gMem) => Q = gMQ below D cy B H0 args s 0 0 (some (vI r.1)) r.2) z → gGo p l e rX6_fisherLine s m args below meth c D cy B H0 2 0 0 Q 0 [(0, vR (some x0))] [] M := sorry

set_option maxHeartbeats 4000000 in
set_option maxRecDepth 100000 in
theorem m_X6_fisherLine (l : Launch) {D : va_G} {cy : Nat → ClassId} {B : Nat} {H0 : Heap} {Z : Nat → Nat} {M M1 : gMem} {x0 : Nat} {r : Int32} (hf : f_X6_fisherLine Z M x0 = some (r, M1)) : Met l yX6_fisherLine wsX6_fisherLine rX6_fisherLine (va_Pc (Value.ref x0 :: List.map gv []) (gPre D cy B H0 (gSt Z B H0) M)) (gQ D cy B H0 (some (vI r)) M1) 0 0 (gA B) := sorry

end
