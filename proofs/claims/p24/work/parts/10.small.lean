section
variable {p : Program} {l : Launch} {e : Env} {s : State} {m : MethodId} {args : Array Value} {below : List Frame} {meth : Method} {c : Code} {D : va_G} {cy : Nat → ClassId} {B : Nat} {H0 : Heap} {Z : Nat → Nat}
/-! ## TideLots$Ground.allFish()I -/
theorem i_X3_allFish_X3 : ∀ w ∈ u_ws RX3 TX3 4, w ∈ wsX3_allFish := sorry

abbrev rX3_allFish : Room := { frames := 0, cells := 0, slots := 0, locals := 0 }
noncomputable def bb_X3_allFish_4 (M : gMem) (x0 : Nat) (x1 : Int32) (x2 : Int32) : Option ((gMem × Int32 × Int32) ⊕ (Int32 × gMem)) :=
  (if (5 : Int32) < x2 then oI (some (x1, M)) else ck (mT M x0 = 3) <| dr ((mR M x0 3)) fun a3 => ck (mT M a3 = 20) <| ck (inb x2 (mL M a3)) <| some (.inl (M, (x1 + (mI M a3 x2.toNatClampNeg)), (x2 + (1 : Int32)))))
noncomputable def lp_X3_allFish_4 (M : gMem) (x0 : Nat) (x1 : Int32) (x2 : Int32) : Option (Int32 × gMem) :=
  lp (fun (q : gMem × Int32 × Int32) => bb_X3_allFish_4 q.1 x0 q.2.1 q.2.2) (M, x1, x2)
noncomputable def b_X3_allFish_0 (M : gMem) (x0 : Nat) : Option (Int32 × gMem) :=
  lp_X3_allFish_4 M x0 ((0 : Int32)) ((1 : Int32))
noncomputable def f_X3_allFish (M : gMem) (x0 : Nat) : Option (Int32 × gMem) :=
  b_X3_allFish_0 M x0
set_option maxHeartbeats 4000000 in
set_option maxRecDepth 100000 in
set_option maxHeartbeats 4000000 in
set_option maxRecDepth 100000 in
set_option maxHeartbeats 4000000 in
set_option maxRecDepth 100000 in
theorem t_X3_allFish_0 (X : gX p s m args meth c D cy B (gSt Z B H0) RX3 cX3_allFish wsX3_allFish 3) (hr : meth.sig.returnType = (some .int)) {Q : State → Prop} : ∀ (M : gMem) (x0 : Nat) (z : Int32 × gMem), b_X3_allFish_0 M x0 = some z → (fun (r : Int32 × gMem) => Q = gMQ below D cy B H0 args s 0 0 (some (vI r.1)) r.2) z → gGo p l e rX3_allFish s m args below meth c D cy B H0 3 0 0 Q 0 [(0, vR (some x0))] [] M := sorry

set_option maxHeartbeats 4000000 in
set_option maxRecDepth 100000 in
theorem m_X3_allFish (l : Launch) {D : va_G} {cy : Nat → ClassId} {B : Nat} {H0 : Heap} {Z : Nat → Nat} {M M1 : gMem} {x0 : Nat} {r : Int32} (hf : f_X3_allFish M x0 = some (r, M1)) : Met l yX3_allFish wsX3_allFish rX3_allFish (va_Pc (Value.ref x0 :: List.map gv []) (gPre D cy B H0 (gSt Z B H0) M)) (gQ D cy B H0 (some (vI r)) M1) 0 0 (gA B) := sorry

/-! ## TideLots$Ground.grow()V -/
set_option maxRecDepth 20000 in
set_option maxRecDepth 20000 in
theorem gX3_grow_X3_allFish : GoodIn wsX3_grow (wsV RX3 31 RX3 yX3_allFish wsX3_allFish) := sorry

theorem i_X3_grow_X3 : ∀ w ∈ u_ws RX3 TX3 4, w ∈ wsX3_grow := sorry

abbrev rX3_grow : Room := { frames := 1, cells := 0, slots := 0, locals := 22 }
noncomputable def bb_X3_grow_2 (M : gMem) (x0 : Nat) (x1 : Int32) : Option ((gMem × Int32) ⊕ (Unit × gMem)) :=
  (if x1 < (1 : Int32) then ck (mT M x0 = 3) <| dr ((mR M x0 3)) fun a2 => ck (mT M a2 = 20) <| ck (inb (1 : Int32) (mL M a2)) <| bd (f_X3_allFish M x0) fun r5 M5 => ck (mT M5 a2 = 20) <| ck (inb (1 : Int32) (mL M5 a2)) <| lw (wI M5 a2 ((1 : Int32)).toNatClampNeg ((imin (((mI M a2 ((1 : Int32)).toNatClampNeg) + (r5 / (6 : Int32)))) ((99 : Int32))))) fun M8 => oI (some ((), M8)) else ck (mT M x0 = 3) <| dr ((mR M x0 3)) fun a12 => ck (mT M a12 = 20) <| ck (inb x1 (mL M a12)) <| ck (inb x1 (mL M a12)) <| ck (inb x1 (mL M a12)) <| lw (wI M a12 x1.toNatClampNeg (((mI M a12 x1.toNatClampNeg) - ((mI M a12 x1.toNatClampNeg) / (5 : Int32))))) fun M17 => dr ((mR M17 x0 3)) fun a20 => ck (mT M17 a20 = 20) <| ck (inb (x1 + (1 : Int32)) (mL M17 a20)) <| ck (inb (x1 + (1 : Int32)) (mL M17 a20)) <| lw (wI M17 a20 ((x1 + (1 : Int32))).toNatClampNeg ((imin (((mI M17 a20 ((x1 + (1 : Int32))).toNatClampNeg) + ((mI M a12 x1.toNatClampNeg) / (5 : Int32)))) ((99 : Int32))))) fun M24 => some (.inl (M24, (x1 + (-1 : Int32)))))
noncomputable def lp_X3_grow_2 (M : gMem) (x0 : Nat) (x1 : Int32) : Option (Unit × gMem) :=
  lp (fun (q : gMem × Int32) => bb_X3_grow_2 q.1 x0 q.2) (M, x1)
noncomputable def b_X3_grow_0 (M : gMem) (x0 : Nat) : Option (Unit × gMem) :=
  lp_X3_grow_2 M x0 ((4 : Int32))
noncomputable def f_X3_grow (M : gMem) (x0 : Nat) : Option (Unit × gMem) :=
  b_X3_grow_0 M x0
set_option maxHeartbeats 4000000 in
set_option maxRecDepth 100000 in
set_option maxHeartbeats 4000000 in
set_option maxRecDepth 100000 in
set_option maxHeartbeats 4000000 in
set_option maxRecDepth 100000 in
theorem t_X3_grow_0 (X : gX p s m args meth c D cy B (gSt Z B H0) RX3 cX3_grow wsX3_grow 3) (hr : meth.sig.returnType = none) {Q : State → Prop} : ∀ (M : gMem) (x0 : Nat) (z : Unit × gMem), b_X3_grow_0 M x0 = some z → (fun (r : Unit × gMem) => Q = gMQ below D cy B H0 args s 0 0 none r.2) z → gGo p l e rX3_grow s m args below meth c D cy B H0 3 0 0 Q 0 [(0, vR (some x0))] [] M := sorry

set_option maxHeartbeats 4000000 in
set_option maxRecDepth 100000 in
theorem m_X3_grow (l : Launch) {D : va_G} {cy : Nat → ClassId} {B : Nat} {H0 : Heap} {Z : Nat → Nat} {M M1 : gMem} {x0 : Nat} {r : Unit} (hf : f_X3_grow M x0 = some (r, M1)) : Met l yX3_grow wsX3_grow rX3_grow (va_Pc (Value.ref x0 :: List.map gv []) (gPre D cy B H0 (gSt Z B H0) M)) (gQ D cy B H0 none M1) 0 0 (gA B) := sorry

/-! ## TideLots$Ground.copyFrom(LTideLots$Ground;)V -/
theorem i_X3_copyFrom_X3 : ∀ w ∈ u_ws RX3 TX3 4, w ∈ wsX3_copyFrom := sorry

abbrev rX3_copyFrom : Room := { frames := 0, cells := 0, slots := 0, locals := 0 }
noncomputable def bb_X3_copyFrom_26 (M : gMem) (x0 : Nat) (x1 : Option Nat) (x2 : Int32) : Option ((gMem × Int32) ⊕ (Unit × gMem)) :=
  (if (5 : Int32) < x2 then oI (some ((), M)) else ck (mT M x0 = 3) <| dr x1 fun a3 => ck (mT M a3 = 3) <| dr ((mR M a3 3)) fun a5 => ck (mT M a5 = 20) <| ck (inb x2 (mL M a5)) <| dr ((mR M x0 3)) fun a8 => ck (mT M a8 = 20) <| ck (inb x2 (mL M a8)) <| lw (wI M a8 x2.toNatClampNeg ((mI M a5 x2.toNatClampNeg))) fun M11 => some (.inl (M11, (x2 + (1 : Int32)))))
noncomputable def lp_X3_copyFrom_26 (M : gMem) (x0 : Nat) (x1 : Option Nat) (x2 : Int32) : Option (Unit × gMem) :=
  lp (fun (q : gMem × Int32) => bb_X3_copyFrom_26 q.1 x0 x1 q.2) (M, x2)
noncomputable def b_X3_copyFrom_0 (M : gMem) (x0 : Nat) (x1 : Option Nat) : Option (Unit × gMem) :=
  dr x1 fun a16 => ck (mT M a16 = 3) <| ck (mT M x0 = 3) <| lw (wI M x0 0 ((mI M a16 0))) fun M19 => lw (wI M19 x0 1 ((mI M19 a16 1))) fun M22 => lw (wI M22 x0 2 ((mI M22 a16 2))) fun M25 => lp_X3_copyFrom_26 M25 x0 x1 ((1 : Int32))
noncomputable def f_X3_copyFrom (M : gMem) (x0 : Nat) (x1 : Option Nat) : Option (Unit × gMem) :=
  b_X3_copyFrom_0 M x0 x1
set_option maxHeartbeats 4000000 in
set_option maxRecDepth 100000 in
set_option maxHeartbeats 4000000 in
set_option maxRecDepth 100000 in
set_option maxHeartbeats 4000000 in
set_option maxRecDepth 100000 in
theorem t_X3_copyFrom_0 (X : gX p s m args meth c D cy B (gSt Z B H0) RX3 cX3_copyFrom wsX3_copyFrom 3) (hr : meth.sig.returnType = none) {Q : State → Prop} : ∀ (M : gMem) (x0 : Nat) (x1 : Option Nat) (z : Unit × gMem), b_X3_copyFrom_0 M x0 x1 = some z → (fun (r : Unit × gMem) => Q = gMQ below D cy B H0 args s 0 0 none r.2) z → gGo p l e rX3_copyFrom s m args below meth c D cy B H0 3 0 0 Q 0 [(0, vR (some x0)), (1, vR x1)] [] M := sorry

set_option maxHeartbeats 4000000 in
set_option maxRecDepth 100000 in
theorem m_X3_copyFrom (l : Launch) {D : va_G} {cy : Nat → ClassId} {B : Nat} {H0 : Heap} {Z : Nat → Nat} {M M1 : gMem} {x0 : Nat} {x1 : Option Nat} {r : Unit} (hf : f_X3_copyFrom M x0 x1 = some (r, M1)) : Met l yX3_copyFrom wsX3_copyFrom rX3_copyFrom (va_Pc (Value.ref x0 :: List.map gv [vR x1]) (gPre D cy B H0 (gSt Z B H0) M)) (gQ D cy B H0 none M1) 0 0 (gA B) := sorry

/-! ## TideLots$Fisher.tear()V -/
theorem i_X1_tear_X1 : ∀ w ∈ u_ws RX1 TX1 11, w ∈ wsX1_tear := sorry

abbrev rX1_tear : Room := { frames := 1, cells := 0, slots := 0, locals := 14 }
noncomputable def b_X1_tear_0 (M : gMem) (x0 : Nat) : Option (Unit × gMem) :=
  ck (mT M x0 = 1) <| lw (wI M x0 1 ((imin (((mI M x0 1) + (1 : Int32))) ((6 : Int32))))) fun M2 => lw (wI M2 x0 7 (((mI M2 x0 7) + (1 : Int32)))) fun M4 => some ((), M4)
noncomputable def f_X1_tear (M : gMem) (x0 : Nat) : Option (Unit × gMem) :=
  b_X1_tear_0 M x0
set_option maxHeartbeats 4000000 in
set_option maxRecDepth 100000 in
theorem t_X1_tear_0 (X : gX p s m args meth c D cy B (gSt Z B H0) RX1 cX1_tear wsX1_tear 1) (hr : meth.sig.returnType = none) {Q : State → Prop} : ∀ (M : gMem) (x0 : Nat) (z : Unit × gMem), b_X1_tear_0 M x0 = some z → (fun (r : Unit × gMem) => Q = gMQ below D cy B H0 args s 0 0 none r.2) z → gGo p l e rX1_tear s m args below meth c D cy B H0 1 0 0 Q 0 [(0, vR (some x0))] [] M := sorry

set_option maxHeartbeats 4000000 in
set_option maxRecDepth 100000 in
theorem m_X1_tear (l : Launch) {D : va_G} {cy : Nat → ClassId} {B : Nat} {H0 : Heap} {Z : Nat → Nat} {M M1 : gMem} {x0 : Nat} {r : Unit} (hf : f_X1_tear M x0 = some (r, M1)) : Met l yX1_tear wsX1_tear rX1_tear (va_Pc (Value.ref x0 :: List.map gv []) (gPre D cy B H0 (gSt Z B H0) M)) (gQ D cy B H0 none M1) 0 0 (gA B) := sorry

/-! ## TideLots$Fisher.copyFrom(LTideLots$Fisher;)V -/
theorem i_X1_copyFrom_X1 : ∀ w ∈ u_ws RX1 TX1 11, w ∈ wsX1_copyFrom := sorry

abbrev rX1_copyFrom : Room := { frames := 0, cells := 0, slots := 0, locals := 0 }
noncomputable def bb_X1_copyFrom_82 (M : gMem) (x0 : Nat) (x1 : Option Nat) (x2 : Int32) : Option ((gMem × Int32) ⊕ (Unit × gMem)) :=
  (if (8 : Int32) ≤ x2 then oI (some ((), M)) else ck (mT M x0 = 1) <| dr x1 fun a3 => ck (mT M a3 = 1) <| dr ((mR M a3 10)) fun a5 => ck (mT M a5 = 20) <| ck (inb x2 (mL M a5)) <| dr ((mR M x0 10)) fun a8 => ck (mT M a8 = 20) <| ck (inb x2 (mL M a8)) <| lw (wI M a8 x2.toNatClampNeg ((mI M a5 x2.toNatClampNeg))) fun M11 => some (.inl (M11, (x2 + (1 : Int32)))))
noncomputable def lp_X1_copyFrom_82 (M : gMem) (x0 : Nat) (x1 : Option Nat) (x2 : Int32) : Option (Unit × gMem) :=
  lp (fun (q : gMem × Int32) => bb_X1_copyFrom_82 q.1 x0 x1 q.2) (M, x2)
noncomputable def b_X1_copyFrom_0 (M : gMem) (x0 : Nat) (x1 : Option Nat) : Option (Unit × gMem) :=
  dr x1 fun a16 => ck (mT M a16 = 1) <| ck (mT M x0 = 1) <| lw (wI M x0 0 ((mI M a16 0))) fun M19 => lw (wI M19 x0 1 ((mI M19 a16 1))) fun M22 => lw (wI M22 x0 2 ((mI M22 a16 2))) fun M25 => lw (wI M25 x0 3 ((mI M25 a16 3))) fun M28 => lw (wI M28 x0 4 ((mI M28 a16 4))) fun M31 => lw (wI M31 x0 5 ((mI M31 a16 5))) fun M34 => lw (wI M34 x0 6 ((mI M34 a16 6))) fun M37 => lw (wI M37 x0 7 ((mI M37 a16 7))) fun M40 => lw (wI M40 x0 8 ((mI M40 a16 8))) fun M43 => ck ((mI M43 a16 9) = 0 ∨ (mI M43 a16 9) = 1) <| lw (wI M43 x0 9 ((mI M43 a16 9))) fun M47 => lp_X1_copyFrom_82 M47 x0 x1 ((0 : Int32))
noncomputable def f_X1_copyFrom (M : gMem) (x0 : Nat) (x1 : Option Nat) : Option (Unit × gMem) :=
  b_X1_copyFrom_0 M x0 x1
set_option maxHeartbeats 4000000 in
set_option maxRecDepth 100000 in
set_option maxHeartbeats 4000000 in
set_option maxRecDepth 100000 in
set_option maxHeartbeats 4000000 in
set_option maxRecDepth 100000 in
theorem t_X1_copyFrom_0 (X : gX p s m args meth c D cy B (gSt Z B H0) RX1 cX1_copyFrom wsX1_copyFrom 3) (hr : meth.sig.returnType = none) {Q : State → Prop} : ∀ (M : gMem) (x0 : Nat) (x1 : Option Nat) (z : Unit × gMem), b_X1_copyFrom_0 M x0 x1 = some z → (fun (r : Unit × gMem) => Q = gMQ below D cy B H0 args s 0 0 none r.2) z → gGo p l e rX1_copyFrom s m args below meth c D cy B H0 3 0 0 Q 0 [(0, vR (some x0)), (1, vR x1)] [] M := sorry

set_option maxHeartbeats 4000000 in
set_option maxRecDepth 100000 in
theorem m_X1_copyFrom (l : Launch) {D : va_G} {cy : Nat → ClassId} {B : Nat} {H0 : Heap} {Z : Nat → Nat} {M M1 : gMem} {x0 : Nat} {x1 : Option Nat} {r : Unit} (hf : f_X1_copyFrom M x0 x1 = some (r, M1)) : Met l yX1_copyFrom wsX1_copyFrom rX1_copyFrom (va_Pc (Value.ref x0 :: List.map gv [vR x1]) (gPre D cy B H0 (gSt Z B H0) M)) (gQ D cy B H0 none M1) 0 0 (gA B) := sorry

/-! ## TideLots$Go.copyFrom(LTideLots$Go;)V -/
theorem i_X2_copyFrom_X2 : ∀ w ∈ u_ws RX2 TX2 4, w ∈ wsX2_copyFrom := sorry

abbrev rX2_copyFrom : Room := { frames := 0, cells := 0, slots := 0, locals := 0 }
noncomputable def b_X2_copyFrom_0 (M : gMem) (x0 : Nat) (x1 : Option Nat) : Option (Unit × gMem) :=
  dr x1 fun a1 => ck (mT M a1 = 2) <| ck (mT M x0 = 2) <| lw (wI M x0 0 ((mI M a1 0))) fun M4 => lw (wI M4 x0 1 ((mI M4 a1 1))) fun M7 => lw (wI M7 x0 2 ((mI M7 a1 2))) fun M10 => lw (wI M10 x0 3 ((mI M10 a1 3))) fun M13 => some ((), M13)
noncomputable def f_X2_copyFrom (M : gMem) (x0 : Nat) (x1 : Option Nat) : Option (Unit × gMem) :=
  b_X2_copyFrom_0 M x0 x1
set_option maxHeartbeats 4000000 in
set_option maxRecDepth 100000 in
theorem t_X2_copyFrom_0 (X : gX p s m args meth c D cy B (gSt Z B H0) RX2 cX2_copyFrom wsX2_copyFrom 2) (hr : meth.sig.returnType = none) {Q : State → Prop} : ∀ (M : gMem) (x0 : Nat) (x1 : Option Nat) (z : Unit × gMem), b_X2_copyFrom_0 M x0 x1 = some z → (fun (r : Unit × gMem) => Q = gMQ below D cy B H0 args s 0 0 none r.2) z → gGo p l e rX2_copyFrom s m args below meth c D cy B H0 2 0 0 Q 0 [(0, vR (some x0)), (1, vR x1)] [] M := sorry

set_option maxHeartbeats 4000000 in
set_option maxRecDepth 100000 in
theorem m_X2_copyFrom (l : Launch) {D : va_G} {cy : Nat → ClassId} {B : Nat} {H0 : Heap} {Z : Nat → Nat} {M M1 : gMem} {x0 : Nat} {x1 : Option Nat} {r : Unit} (hf : f_X2_copyFrom M x0 x1 = some (r, M1)) : Met l yX2_copyFrom wsX2_copyFrom rX2_copyFrom (va_Pc (Value.ref x0 :: List.map gv [vR x1]) (gPre D cy B H0 (gSt Z B H0) M)) (gQ D cy B H0 none M1) 0 0 (gA B) := sorry

/-! ## TideLots$Pact.splits()Z -/
theorem i_X5_splits_X5 : ∀ w ∈ u_ws RX5 TX5 8, w ∈ wsX5_splits := sorry

abbrev rX5_splits : Room := { frames := 0, cells := 0, slots := 0, locals := 0 }
noncomputable def b_X5_splits_12 (M : gMem) (s0 : Int32) : Option (Int32 × gMem) :=
  ck (s0 = 0 ∨ s0 = 1) <| some (s0, M)
noncomputable def b_X5_splits_0 (M : gMem) (x0 : Nat) : Option (Int32 × gMem) :=
  ck (mT M x0 = 5) <| (if 0 ≤ (mI M x0 0) then b_X5_splits_12 M ((0 : Int32)) else b_X5_splits_12 M ((1 : Int32)))
noncomputable def f_X5_splits (M : gMem) (x0 : Nat) : Option (Int32 × gMem) :=
  b_X5_splits_0 M x0
set_option maxHeartbeats 4000000 in
set_option maxRecDepth 100000 in
theorem t_X5_splits_12 (X : gX p s m args meth c D cy B (gSt Z B H0) RX5 cX5_splits wsX5_splits 1) (hr : meth.sig.returnType = (some .boolean)) {Q : State → Prop} : ∀ (M : gMem) (s0 : Int32) (z : Int32 × gMem), b_X5_splits_12 M s0 = some z → (fun (r : Int32 × gMem) => Q = gMQ below D cy B H0 args s 0 0 (some (vI r.1)) r.2) z → gGo p l e rX5_splits s m args below meth c D cy B H0 1 0 0 Q 12 [] [vI s0] M := sorry

set_option maxHeartbeats 4000000 in
set_option maxRecDepth 100000 in
theorem t_X5_splits_0 (X : gX p s m args meth c D cy B (gSt Z B H0) RX5 cX5_splits wsX5_splits 1) (hr : meth.sig.returnType = (some .boolean)) {Q : State → Prop} : ∀ (M : gMem) (x0 : Nat) (z : Int32 × gMem), b_X5_splits_0 M x0 = some z → (fun (r : Int32 × gMem) => Q = gMQ below D cy B H0 args s 0 0 (some (vI r.1)) r.2) z → gGo p l e rX5_splits s m args below meth c D cy B H0 1 0 0 Q 0 [(0, vR (some x0))] [] M := sorry

set_option maxHeartbeats 4000000 in
set_option maxRecDepth 100000 in
theorem m_X5_splits (l : Launch) {D : va_G} {cy : Nat → ClassId} {B : Nat} {H0 : Heap} {Z : Nat → Nat} {M M1 : gMem} {x0 : Nat} {r : Int32} (hf : f_X5_splits M x0 = some (r, M1)) : Met l yX5_splits wsX5_splits rX5_splits (va_Pc (Value.ref x0 :: List.map gv []) (gPre D cy B H0 (gSt Z B H0) M)) (gQ D cy B H0 (some (vI r)) M1) 0 0 (gA B) := sorry

/-! ## TideLots$Pact.has(I)Z -/
theorem i_X5_has_X5 : ∀ w ∈ u_ws RX5 TX5 8, w ∈ wsX5_has := sorry

abbrev rX5_has : Room := { frames := 0, cells := 0, slots := 0, locals := 0 }
noncomputable def bb_X5_has_2 (M : gMem) (x0 : Nat) (x1 : Int32) (x2 : Int32) : Option ((gMem × Int32) ⊕ (Int32 × gMem)) :=
  ck (mT M x0 = 5) <| (if (mI M x0 3) ≤ x2 then oI (some ((0 : Int32), M)) else dr ((mR M x0 4)) fun a3 => ck (mT M a3 = 20) <| ck (inb x2 (mL M a3)) <| (if (mI M a3 x2.toNatClampNeg) = x1 then oI (some ((1 : Int32), M)) else some (.inl (M, (x2 + (1 : Int32))))))
noncomputable def lp_X5_has_2 (M : gMem) (x0 : Nat) (x1 : Int32) (x2 : Int32) : Option (Int32 × gMem) :=
  lp (fun (q : gMem × Int32) => bb_X5_has_2 q.1 x0 x1 q.2) (M, x2)
noncomputable def b_X5_has_0 (M : gMem) (x0 : Nat) (x1 : Int32) : Option (Int32 × gMem) :=
  lp_X5_has_2 M x0 x1 ((0 : Int32))
noncomputable def f_X5_has (M : gMem) (x0 : Nat) (x1 : Int32) : Option (Int32 × gMem) :=
  b_X5_has_0 M x0 x1
set_option maxHeartbeats 4000000 in
set_option maxRecDepth 100000 in
set_option maxHeartbeats 4000000 in
set_option maxRecDepth 100000 in
set_option maxHeartbeats 4000000 in
set_option maxRecDepth 100000 in
theorem t_X5_has_0 (X : gX p s m args meth c D cy B (gSt Z B H0) RX5 cX5_has wsX5_has 3) (hr : meth.sig.returnType = (some .boolean)) {Q : State → Prop} : ∀ (M : gMem) (x0 : Nat) (x1 : Int32) (z : Int32 × gMem), b_X5_has_0 M x0 x1 = some z → (fun (r : Int32 × gMem) => Q = gMQ below D cy B H0 args s 0 0 (some (vI r.1)) r.2) z → gGo p l e rX5_has s m args below meth c D cy B H0 3 0 0 Q 0 [(0, vR (some x0)), (1, vI x1)] [] M := sorry

set_option maxHeartbeats 4000000 in
set_option maxRecDepth 100000 in
theorem m_X5_has (l : Launch) {D : va_G} {cy : Nat → ClassId} {B : Nat} {H0 : Heap} {Z : Nat → Nat} {M M1 : gMem} {x0 : Nat} {x1 : Int32} {r : Int32} (hf : f_X5_has M x0 x1 = some (r, M1)) : Met l yX5_has wsX5_has rX5_has (va_Pc (Value.ref x0 :: List.map gv [vI x1]) (gPre D cy B H0 (gSt Z B H0) M)) (gQ D cy B H0 (some (vI r)) M1) 0 0 (gA B) := sorry

/-! ## TideLots$Pact.add(I)V -/
theorem i_X5_add_X5 : ∀ w ∈ u_ws RX5 TX5 8, w ∈ wsX5_add := sorry

abbrev rX5_add : Room := { frames := 0, cells := 0, slots := 0, locals := 0 }
noncomputable def b_X5_add_29 (M : gMem)  : Option (Unit × gMem) :=
  some ((), M)
noncomputable def b_X5_add_0 (M : gMem) (x0 : Nat) (x1 : Int32) : Option (Unit × gMem) :=
  ck (mT M x0 = 5) <| (if (8 : Int32) ≤ (mI M x0 3) then b_X5_add_29 M  else dr ((mR M x0 4)) fun a2 => ck (mT M a2 = 20) <| ck (inb (mI M x0 3) (mL M a2)) <| lw (wI M a2 ((mI M x0 3)).toNatClampNeg x1) fun M5 => lw (wI M5 x0 3 (((mI M5 x0 3) + (1 : Int32)))) fun M8 => b_X5_add_29 M8 )
noncomputable def f_X5_add (M : gMem) (x0 : Nat) (x1 : Int32) : Option (Unit × gMem) :=
  b_X5_add_0 M x0 x1
set_option maxHeartbeats 4000000 in
set_option maxRecDepth 100000 in
theorem t_X5_add_29 (X : gX p s m args meth c D cy B (gSt Z B H0) RX5 cX5_add wsX5_add 2) (hr : meth.sig.returnType = none) {Q : State → Prop} : ∀ (M : gMem)  (z : Unit × gMem), b_X5_add_29 M  = some z → (fun (r : Unit × gMem) => Q = gMQ below D cy B H0 args s 0 0 none r.2) z → gGo p l e rX5_add s m args below meth c D cy B H0 2 0 0 Q 29 [] [] M := sorry

set_option maxHeartbeats 4000000 in
set_option maxRecDepth 100000 in
theorem t_X5_add_0 (X : gX p s m args meth c D cy B (gSt Z B H0) RX5 cX5_add wsX5_add 2) (hr : meth.sig.returnType = none) {Q : State → Prop} : ∀ (M : gMem) (x0 : Nat) (x1 : Int32) (z : Unit × gMem), b_X5_add_0 M x0 x1 = some z → (fun (r : Unit × gMem) => Q = gMQ below D cy B H0 args s 0 0 none r.2) z → gGo p l e rX5_add s m args below meth c D cy B H0 2 0 0 Q 0 [(0, vR (some x0)), (1, vI x1)] [] M := sorry

set_option maxHeartbeats 4000000 in
set_option maxRecDepth 100000 in
theorem m_X5_add (l : Launch) {D : va_G} {cy : Nat → ClassId} {B : Nat} {H0 : Heap} {Z : Nat → Nat} {M M1 : gMem} {x0 : Nat} {x1 : Int32} {r : Unit} (hf : f_X5_add M x0 x1 = some (r, M1)) : Met l yX5_add wsX5_add rX5_add (va_Pc (Value.ref x0 :: List.map gv [vI x1]) (gPre D cy B H0 (gSt Z B H0) M)) (gQ D cy B H0 none M1) 0 0 (gA B) := sorry

/-! ## TideLots$Pact.copyFrom(LTideLots$Pact;)V -/
theorem i_X5_copyFrom_X5 : ∀ w ∈ u_ws RX5 TX5 8, w ∈ wsX5_copyFrom := sorry

abbrev rX5_copyFrom : Room := { frames := 0, cells := 0, slots := 0, locals := 0 }
noncomputable def bb_X5_copyFrom_58 (M : gMem) (x0 : Nat) (x1 : Option Nat) (x2 : Int32) : Option ((gMem × Int32) ⊕ (Unit × gMem)) :=
  (if (8 : Int32) ≤ x2 then oI (some ((), M)) else ck (mT M x0 = 5) <| dr x1 fun a3 => ck (mT M a3 = 5) <| dr ((mR M a3 4)) fun a5 => ck (mT M a5 = 20) <| ck (inb x2 (mL M a5)) <| dr ((mR M x0 4)) fun a8 => ck (mT M a8 = 20) <| ck (inb x2 (mL M a8)) <| lw (wI M a8 x2.toNatClampNeg ((mI M a5 x2.toNatClampNeg))) fun M11 => some (.inl (M11, (x2 + (1 : Int32)))))
noncomputable def lp_X5_copyFrom_58 (M : gMem) (x0 : Nat) (x1 : Option Nat) (x2 : Int32) : Option (Unit × gMem) :=
  lp (fun (q : gMem × Int32) => bb_X5_copyFrom_58 q.1 x0 x1 q.2) (M, x2)
noncomputable def b_X5_copyFrom_0 (M : gMem) (x0 : Nat) (x1 : Option Nat) : Option (Unit × gMem) :=
  dr x1 fun a16 => ck (mT M a16 = 5) <| ck (mT M x0 = 5) <| lw (wI M x0 0 ((mI M a16 0))) fun M19 => lw (wI M19 x0 1 ((mI M19 a16 1))) fun M22 => lw (wI M22 x0 2 ((mI M22 a16 2))) fun M25 => lw (wI M25 x0 3 ((mI M25 a16 3))) fun M28 => lw (wI M28 x0 5 ((mI M28 a16 5))) fun M31 => lw (wI M31 x0 6 ((mI M31 a16 6))) fun M34 => lw (wI M34 x0 7 ((mI M34 a16 7))) fun M37 => lp_X5_copyFrom_58 M37 x0 x1 ((0 : Int32))
noncomputable def f_X5_copyFrom (M : gMem) (x0 : Nat) (x1 : Option Nat) : Option (Unit × gMem) :=
  b_X5_copyFrom_0 M x0 x1
set_option maxHeartbeats 4000000 in
set_option maxRecDepth 100000 in
set_option maxHeartbeats 4000000 in
set_option maxRecDepth 100000 in
set_option maxHeartbeats 4000000 in
set_option maxRecDepth 100000 in
theorem t_X5_copyFrom_0 (X : gX p s m args meth c D cy B (gSt Z B H0) RX5 cX5_copyFrom wsX5_copyFrom 3) (hr : meth.sig.returnType = none) {Q : State → Prop} : ∀ (M : gMem) (x0 : Nat) (x1 : Option Nat) (z : Unit × gMem), b_X5_copyFrom_0 M x0 x1 = some z → (fun (r : Unit × gMem) => Q = gMQ below D cy B H0 args s 0 0 none r.2) z → gGo p l e rX5_copyFrom s m args below meth c D cy B H0 3 0 0 Q 0 [(0, vR (some x0)), (1, vR x1)] [] M := sorry

set_option maxHeartbeats 4000000 in
set_option maxRecDepth 100000 in
theorem m_X5_copyFrom (l : Launch) {D : va_G} {cy : Nat → ClassId} {B : Nat} {H0 : Heap} {Z : Nat → Nat} {M M1 : gMem} {x0 : Nat} {x1 : Option Nat} {r : Unit} (hf : f_X5_copyFrom M x0 x1 = some (r, M1)) : Met l yX5_copyFrom wsX5_copyFrom rX5_copyFrom (va_Pc (Value.ref x0 :: List.map gv [vR x1]) (gPre D cy B H0 (gSt Z B H0) M)) (gQ D cy B H0 none M1) 0 0 (gA B) := sorry

/-! ## TideLots$Names.find(J)I -/
theorem i_X4_find_X4 : ∀ w ∈ u_ws RX4 TX4 2, w ∈ wsX4_find := sorry

abbrev rX4_find : Room := { frames := 0, cells := 0, slots := 0, locals := 0 }
noncomputable def bb_X4_find_2 (M : gMem) (x0 : Nat) (x1 : Int64) (x3 : Int32) : Option ((gMem × Int32) ⊕ (Int32 × gMem)) :=
  ck (mT M x0 = 4) <| (if (mI M x0 1) ≤ x3 then oI (some ((-1 : Int32), M)) else dr ((mR M x0 0)) fun a3 => ck (mT M a3 = 21) <| ck (inb x3 (mL M a3)) <| (if (lg_cmp ((mJ M a3 x3.toNatClampNeg)) x1) = 0 then oI (some (x3, M)) else some (.inl (M, (x3 + (1 : Int32))))))
noncomputable def lp_X4_find_2 (M : gMem) (x0 : Nat) (x1 : Int64) (x3 : Int32) : Option (Int32 × gMem) :=
  lp (fun (q : gMem × Int32) => bb_X4_find_2 q.1 x0 x1 q.2) (M, x3)
noncomputable def b_X4_find_0 (M : gMem) (x0 : Nat) (x1 : Int64) : Option (Int32 × gMem) :=
  lp_X4_find_2 M x0 x1 ((0 : Int32))
noncomputable def f_X4_find (M : gMem) (x0 : Nat) (x1 : Int64) : Option (Int32 × gMem) :=
  b_X4_find_0 M x0 x1
set_option maxHeartbeats 4000000 in
set_option maxRecDepth 100000 in
set_option maxHeartbeats 4000000 in
set_option maxRecDepth 100000 in
set_option maxHeartbeats 4000000 in
set_option maxRecDepth 100000 in
theorem t_X4_find_0 (X : gX p s m args meth c D cy B (gSt Z B H0) RX4 cX4_find wsX4_find 4) (hr : meth.sig.returnType = (some .int)) {Q : State → Prop} : ∀ (M : gMem) (x0 : Nat) (x1 : Int64) (z : Int32 × gMem), b_X4_find_0 M x0 x1 = some z → (fun (r : Int32 × gMem) => Q = gMQ below D cy B H0 args s 0 0 (some (vI r.1)) r.2) z → gGo p l e rX4_find s m args below meth c D cy B H0 4 0 0 Q 0 [(0, vR (some x0)), (1, vJ x1)] [] M := sorry

set_option maxHeartbeats 4000000 in
set_option maxRecDepth 100000 in
theorem m_X4_find (l : Launch) {D : va_G} {cy : Nat → ClassId} {B : Nat} {H0 : Heap} {Z : Nat → Nat} {M M1 : gMem} {x0 : Nat} {x1 : Int64} {r : Int32} (hf : f_X4_find M x0 x1 = some (r, M1)) : Met l yX4_find wsX4_find rX4_find (va_Pc (Value.ref x0 :: List.map gv [vJ x1]) (gPre D cy B H0 (gSt Z B H0) M)) (gQ D cy B H0 (some (vI r)) M1) 0 0 (gA B) := sorry

/-! ## TideLots$Names.add(J)Z -/
theorem i_X4_add_X4 : ∀ w ∈ u_ws RX4 TX4 2, w ∈ wsX4_add := sorry

abbrev rX4_add : Room := { frames := 0, cells := 0, slots := 0, locals := 0 }
noncomputable def b_X4_add_0 (M : gMem) (x0 : Nat) (x1 : Int64) : Option (Int32 × gMem) :=
  ck (mT M x0 = 4) <| dr ((mR M x0 0)) fun a2 => ck (mT M a2 = 21) <| (if (mI M x0 1) < (Int32.ofNat (mL M a2)) then ck (inb (mI M x0 1) (mL M a2)) <| lw (wJ M a2 ((mI M x0 1)).toNatClampNeg x1) fun M5 => lw (wI M5 x0 1 (((mI M5 x0 1) + (1 : Int32)))) fun M8 => some ((1 : Int32), M8) else some ((0 : Int32), M))
noncomputable def f_X4_add (M : gMem) (x0 : Nat) (x1 : Int64) : Option (Int32 × gMem) :=
  b_X4_add_0 M x0 x1
set_option maxHeartbeats 4000000 in
set_option maxRecDepth 100000 in
theorem t_X4_add_0 (X : gX p s m args meth c D cy B (gSt Z B H0) RX4 cX4_add wsX4_add 3) (hr : meth.sig.returnType = (some .boolean)) {Q : State → Prop} : ∀ (M : gMem) (x0 : Nat) (x1 : Int64) (z : Int32 × gMem), b_X4_add_0 M x0 x1 = some z → (fun (r : Int32 × gMem) => Q = gMQ below D cy B H0 args s 0 0 (some (vI r.1)) r.2) z → gGo p l e rX4_add s m args below meth c D cy B H0 3 0 0 Q 0 [(0, vR (some x0)), (1, vJ x1)] [] M := sorry

set_option maxHeartbeats 4000000 in
set_option maxRecDepth 100000 in
theorem m_X4_add (l : Launch) {D : va_G} {cy : Nat → ClassId} {B : Nat} {H0 : Heap} {Z : Nat → Nat} {M M1 : gMem} {x0 : Nat} {x1 : Int64} {r : Int32} (hf : f_X4_add M x0 x1 = some (r, M1)) : Met l yX4_add wsX4_add rX4_add (va_Pc (Value.ref x0 :: List.map gv [vJ x1]) (gPre D cy B H0 (gSt Z B H0) M)) (gQ D cy B H0 (some (vI r)) M1) 0 0 (gA B) := sorry

end
