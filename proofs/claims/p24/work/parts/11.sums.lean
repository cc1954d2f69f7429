section
variable {p : Program} {l : Launch} {e : Env} {s : State} {m : MethodId} {args : Array Value} {below : List Frame} {meth : Method} {c : Code} {D : va_G} {cy : Nat → ClassId} {B : Nat} {H0 : Heap} {Z : Nat → Nat}
/-! ## TideLots$Sums.add(LTideLots$Sign;I)V -/
theorem i_X9_add_X9 : ∀ w ∈ u_ws RX9 TX9 4, w ∈ wsX9_add := sorry

abbrev rX9_add : Room := { frames := 0, cells := 0, slots := 0, locals := 0 }
noncomputable def b_X9_add_40 (Z : Nat → Nat) (M : gMem)  : Option (Unit × gMem) :=
  some ((), M)
noncomputable def b_X9_add_0 (Z : Nat → Nat) (M : gMem) (x0 : Nat) (x1 : Option Nat) (x2 : Int32) : Option (Unit × gMem) :=
  ck (mT M x0 = 8) <| (if (400 : Int32) ≤ (mI M x0 0) then b_X9_add_40 Z M  else dr ((mR M x0 1)) fun a2 => ck (mT M a2 = 27) <| ck (inb (mI M x0 0) (mL M a2)) <| dr (ordZ Z x1) fun o5 => lw (wR M a2 ((mI M x0 0)).toNatClampNeg x1) fun M6 => dr ((mR M6 x0 2)) fun a9 => ck (mT M6 a9 = 20) <| ck (inb (mI M6 x0 0) (mL M6 a9)) <| lw (wI M6 a9 ((mI M6 x0 0)).toNatClampNeg x2) fun M12 => lw (wI M12 x0 0 (((mI M12 x0 0) + (1 : Int32)))) fun M16 => b_X9_add_40 Z M16 )
noncomputable def f_X9_add (Z : Nat → Nat) (M : gMem) (x0 : Nat) (x1 : Option Nat) (x2 : Int32) : Option (Unit × gMem) :=
  b_X9_add_0 Z M x0 x1 x2
set_option maxHeartbeats 4000000 in
set_option maxRecDepth 100000 in
theorem t_X9_add_40 (X : gX p s m args meth c D cy B (gSt Z B H0) RX9 cX9_add wsX9_add 3) (hr : meth.sig.returnType = none) {Q : State → Prop} : ∀ (M : gMem)  (z : Unit × gMem), b_X9_add_40 Z M  = some z → (fun (r : Unit × gMem) => Q = gMQ below D cy B H0 args s 0 0 none r.2) z → gGo p l e rX9_add s m args below meth c D cy B H0 3 0 0 Q 40 [] [] M := sorry

set_option maxHeartbeats 4000000 in
set_option maxRecDepth 100000 in
theorem t_X9_add_0 (X : gX p s m args meth c D cy B (gSt Z B H0) RX9 cX9_add wsX9_add 3) (hr : meth.sig.returnType = none) {Q : State → Prop} : ∀ (M : gMem) (x0 : Nat) (x1 : Option Nat) (x2 : Int32) (z : Unit × gMem), b_X9_add_0 Z M x0 x1 x2 = some z → (fun (r : Unit × gMem) => Q = gMQ below D cy B H0 args s 0 0 none r.2) z → gGo p l e rX9_add s m args below meth c D cy B H0 3 0 0 Q 0 [(0, vR (some x0)), (1, vR x1), (2, vI x2)] [] M := sorry

set_option maxHeartbeats 4000000 in
set_option maxRecDepth 100000 in
theorem m_X9_add (l : Launch) {D : va_G} {cy : Nat → ClassId} {B : Nat} {H0 : Heap} {Z : Nat → Nat} {M M1 : gMem} {x0 : Nat} {x1 : Option Nat} {x2 : Int32} {r : Unit} (hf : f_X9_add Z M x0 x1 x2 = some (r, M1)) : Met l yX9_add wsX9_add rX9_add (va_Pc (Value.ref x0 :: List.map gv [vR x1, vI x2]) (gPre D cy B H0 (gSt Z B H0) M)) (gQ D cy B H0 none M1) 0 0 (gA B) := sorry

/-! ## TideLots$Sums.copyFrom(LTideLots$Sums;)V -/
theorem i_X9_copyFrom_X9 : ∀ w ∈ u_ws RX9 TX9 4, w ∈ wsX9_copyFrom := sorry

abbrev rX9_copyFrom : Room := { frames := 0, cells := 0, slots := 0, locals := 0 }
noncomputable def bb_X9_copyFrom_10 (Z : Nat → Nat) (M : gMem) (x0 : Nat) (x1 : Option Nat) (x2 : Int32) : Option ((gMem × Int32) ⊕ (Unit × gMem)) :=
  ck (mT M x0 = 8) <| (if (mI M x0 0) ≤ x2 then oI (some ((), M)) else dr x1 fun a3 => ck (mT M a3 = 8) <| dr ((mR M a3 1)) fun a5 => ck (mT M a5 = 27) <| ck (inb x2 (mL M a5)) <| dr ((mR M x0 1)) fun a8 => ck (mT M a8 = 27) <| ck (inb x2 (mL M a8)) <| dr (ordZ Z ((mR M a5 x2.toNatClampNeg))) fun o11 => lw (wR M a8 x2.toNatClampNeg ((mR M a5 x2.toNatClampNeg))) fun M12 => dr ((mR M12 a3 2)) fun a17 => ck (mT M12 a17 = 20) <| ck (inb x2 (mL M12 a17)) <| dr ((mR M12 x0 2)) fun a20 => ck (mT M12 a20 = 20) <| ck (inb x2 (mL M12 a20)) <| lw (wI M12 a20 x2.toNatClampNeg ((mI M12 a17 x2.toNatClampNeg))) fun M23 => some (.inl (M23, (x2 + (1 : Int32)))))
noncomputable def lp_X9_copyFrom_10 (Z : Nat → Nat) (M : gMem) (x0 : Nat) (x1 : Option Nat) (x2 : Int32) : Option (Unit × gMem) :=
  lp (fun (q : gMem × Int32) => bb_X9_copyFrom_10 Z q.1 x0 x1 q.2) (M, x2)
noncomputable def b_X9_copyFrom_0 (Z : Nat → Nat) (M : gMem) (x0 : Nat) (x1 : Option Nat) : Option (Unit × gMem) :=
  dr x1 fun a30 => ck (mT M a30 = 8) <| ck (mT M x0 = 8) <| lw (wI M x0 0 ((mI M a30 0))) fun M33 => lp_X9_copyFrom_10 Z M33 x0 x1 ((0 : Int32))
noncomputable def f_X9_copyFrom (Z : Nat → Nat) (M : gMem) (x0 : Nat) (x1 : Option Nat) : Option (Unit × gMem) :=
  b_X9_copyFrom_0 Z M x0 x1
set_option maxHeartbeats 4000000 in
set_option maxRecDepth 100000 in
set_option maxHeartbeats 4000000 in
set_option maxRecDepth 100000 in
set_option maxHeartbeats 4000000 in
set_option maxRecDepth 100000 in
theorem t_X9_copyFrom_0 (X : gX p s m args meth c D cy B (gSt Z B H0) RX9 cX9_copyFrom wsX9_copyFrom 3) (hr : meth.sig.returnType = none) {Q : State → Prop} : ∀ (M : gMem) (x0 : Nat) (x1 : Option Nat) (z : Unit × gMem), b_X9_copyFrom_0 Z M x0 x1 = some z → (fun (r : Unit × gMem) => Q = gMQ below D cy B H0 args s 0 0 none r.2) z → gGo p l e rX9_copyFrom s m args below meth c D cy B H0 3 0 0 Q 0 [(0, vR (some x0)), (1, vR x1)] [] M := sorry

set_option maxHeartbeats 4000000 in
set_option maxRecDepth 100000 in
theorem m_X9_copyFrom (l : Launch) {D : va_G} {cy : Nat → ClassId} {B : Nat} {H0 : Heap} {Z : Nat → Nat} {M M1 : gMem} {x0 : Nat} {x1 : Option Nat} {r : Unit} (hf : f_X9_copyFrom Z M x0 x1 = some (r, M1)) : Met l yX9_copyFrom wsX9_copyFrom rX9_copyFrom (va_Pc (Value.ref x0 :: List.map gv [vR x1]) (gPre D cy B H0 (gSt Z B H0) M)) (gQ D cy B H0 none M1) 0 0 (gA B) := sorry

/-! ## TideLots$Sums.valueOn(LTideLots$Shore;LTideLots$Sign;I)I -/
set_option maxRecDepth 20000 in
set_option maxRecDepth 20000 in
theorem gX9_valueOn_Jx29ce0_ordinal_8abf5_u37X8 : GoodIn wsX9_valueOn (va_wsU RX9 37 RX8 "java/lang/Enum" ⟨"TideLots$Sign", "ordinal", "()I"⟩ yJx29ce0_ordinal_8abf5 wsJx29ce0_ordinal_8abf5) := sorry

set_option maxRecDepth 20000 in
set_option maxRecDepth 20000 in
theorem gX9_valueOn_X3_allFish : GoodIn wsX9_valueOn (wsV RX9 80 RX3 yX3_allFish wsX3_allFish) := sorry

theorem i_X9_valueOn_X7 : ∀ w ∈ u_ws RX7 TX7 17, w ∈ wsX9_valueOn := sorry

theorem i_X9_valueOn_X1 : ∀ w ∈ u_ws RX1 TX1 11, w ∈ wsX9_valueOn := sorry

theorem i_X9_valueOn_X3 : ∀ w ∈ u_ws RX3 TX3 4, w ∈ wsX9_valueOn := sorry

abbrev rX9_valueOn : Room := { frames := 1, cells := 0, slots := 0, locals := 22 }
noncomputable def b_X9_valueOn_149 (Z : Nat → Nat) (M : gMem) (x2 : Int32) : Option (Int32 × gMem) :=
  some (x2, M)
noncomputable def b_X9_valueOn_128 (Z : Nat → Nat) (M : gMem) (s0 : Int32) : Option (Int32 × gMem) :=
  some (s0, M)
noncomputable def b_X9_valueOn_0 (Z : Nat → Nat) (M : gMem) (x0 : Option Nat) (x1 : Option Nat) (x2 : Int32) : Option (Int32 × gMem) :=
  dr (ordZ Z x1) fun o1 => (if (gSw o1) = (7 : Int32) then dr x0 fun a3 => ck (mT M a3 = 7) <| dr ((mR M a3 7)) fun a5 => ck (mT M a5 = 24) <| ck (inb x2 (mL M a5)) <| dr ((mR M a5 x2.toNatClampNeg)) fun a8 => ck (mT M a8 = 1) <| (if (mI M a8 9) = 0 then b_X9_valueOn_128 Z M ((0 : Int32)) else b_X9_valueOn_128 Z M ((1 : Int32))) else (if (gSw o1) = (8 : Int32) then b_X9_valueOn_149 Z M x2 else (if (gSw o1) = (9 : Int32) then b_X9_valueOn_149 Z M x2 else (if (gSw o1) = (10 : Int32) then b_X9_valueOn_149 Z M x2 else (if (gSw o1) = (11 : Int32) then b_X9_valueOn_149 Z M x2 else (if (gSw o1) = (12 : Int32) then b_X9_valueOn_149 Z M x2 else (if (gSw o1) = (13 : Int32) then b_X9_valueOn_149 Z M x2 else (if (gSw o1) = (14 : Int32) then dr x0 fun a17 => ck (mT M a17 = 7) <| some ((mI M a17 0), M) else (if (gSw o1) = (15 : Int32) then dr x0 fun a20 => ck (mT M a20 = 7) <| dr ((mR M a20 7)) fun a22 => ck (mT M a22 = 24) <| ck (inb x2 (mL M a22)) <| dr ((mR M a22 x2.toNatClampNeg)) fun a25 => ck (mT M a25 = 1) <| some ((mI M a25 4), M) else (if (gSw o1) = (16 : Int32) then dr x0 fun a28 => ck (mT M a28 = 7) <| dr ((mR M a28 7)) fun a30 => ck (mT M a30 = 24) <| ck (inb x2 (mL M a30)) <| dr ((mR M a30 x2.toNatClampNeg)) fun a33 => ck (mT M a33 = 1) <| some ((mI M a33 5), M) else (if (gSw o1) = (17 : Int32) then dr x0 fun a36 => ck (mT M a36 = 7) <| dr ((mR M a36 7)) fun a38 => ck (mT M a38 = 24) <| ck (inb x2 (mL M a38)) <| dr ((mR M a38 x2.toNatClampNeg)) fun a41 => ck (mT M a41 = 1) <| some ((mI M a41 1), M) else (if (gSw o1) = (18 : Int32) then dr x0 fun a44 => ck (mT M a44 = 7) <| dr ((mR M a44 6)) fun a46 => ck (mT M a46 = 23) <| ck (inb x2 (mL M a46)) <| dr ((mR M a46 x2.toNatClampNeg)) fun a50 => ck (mT M a50 = 3) <| bd (f_X3_allFish M a50) fun r49 M49 => some (r49, M49) else (if (gSw o1) = (19 : Int32) then dr x0 fun a53 => ck (mT M a53 = 7) <| dr ((mR M a53 6)) fun a55 => ck (mT M a55 = 23) <| ck (inb x2 (mL M a55)) <| dr ((mR M a55 x2.toNatClampNeg)) fun a58 => ck (mT M a58 = 3) <| some ((mI M a58 1), M) else b_X9_valueOn_149 Z M x2)))))))))))))
noncomputable def f_X9_valueOn (Z : Nat → Nat) (M : gMem) (x0 : Option Nat) (x1 : Option Nat) (x2 : Int32) : Option (Int32 × gMem) :=
  b_X9_valueOn_0 Z M x0 x1 x2
set_option maxHeartbeats 4000000 in
set_option maxRecDepth 100000 in
theorem t_X9_valueOn_149 (X : gX p s m args meth c D cy B (gSt Z B H0) RX9 cX9_valueOn wsX9_valueOn 3) (hr : meth.sig.returnType = (some .int)) {Q : State → Prop} : ∀ (M : gMem) (x2 : Int32) (z : Int32 × gMem), b_X9_valueOn_149 Z M x2 = some z → (fun (r : Int32 × gMem) => Q = gMQ below D cy B H0 args s 0 0 (some (vI r.1)) r.2) z → gGo p l e rX9_valueOn s m args below meth c D cy B H0 3 0 0 Q 149 [(2, vI x2)] [] M := sorry

set_option maxHeartbeats 4000000 in
set_option maxRecDepth 100000 in
theorem t_X9_valueOn_128 (X : gX p s m args meth c D cy B (gSt Z B H0) RX9 cX9_valueOn wsX9_valueOn 3) (hr : meth.sig.returnType = (some .int)) {Q : State → Prop} : ∀ (M : gMem) (s0 : Int32) (z : Int32 × gMem), b_X9_valueOn_128 Z M s0 = some z → (fun (r : Int32 × gMem) => Q = gMQ below D cy B H0 args s 0 0 (some (vI r.1)) r.2) z → gGo p l e rX9_valueOn s m args below meth c D cy B H0 3 0 0 Q 128 [] [vI s0] M := sorry

set_option maxHeartbeats 4000000 in
set_option maxRecDepth 100000 in
theorem t_X9_valueOn_0 (X : gX p s m args meth c D cy B (gSt Z B H0) RX9 cX9_valueOn wsX9_valueOn 3) (hr : meth.sig.returnType = (some .int)) {Q : State → Prop} : ∀ (M : gMem) (x0 : Option Nat) (x1 : Option Nat) (x2 : Int32) (z : Int32 × gMem), b_X9_valueOn_0 Z M x0 x1 x2 = some z → (fun (r : Int32 × gMem) => Q = gMQ below D cy B H0 args s 0 0 (some (vI r.1)) r.2) z → gGo p l e rX9_valueOn s m args below meth c D cy B H0 3 0 0 Q 0 [(0, vR x0), (1, vR x1), (2, vI x2)] [] M := sorry

set_option maxHeartbeats 4000000 in
set_option maxRecDepth 100000 in
theorem m_X9_valueOn (l : Launch) {D : va_G} {cy : Nat → ClassId} {B : Nat} {H0 : Heap} {Z : Nat → Nat} {M M1 : gMem} {x0 : Option Nat} {x1 : Option Nat} {x2 : Int32} {r : Int32} (hf : f_X9_valueOn Z M x0 x1 x2 = some (r, M1)) : Met l yX9_valueOn wsX9_valueOn rX9_valueOn (va_Pc (List.map gv [vR x0, vR x1, vI x2]) (gPre D cy B H0 (gSt Z B H0) M)) (gQ D cy B H0 (some (vI r)) M1) 0 0 (gA B) := sorry

/-! ## TideLots$Sums.combine(LTideLots$Sign;II)I -/
set_option maxRecDepth 20000 in
set_option maxRecDepth 20000 in
theorem gX9_combine_Jx29ce0_ordinal_8abf5_u37X8 : GoodIn wsX9_combine (va_wsU RX9 37 RX8 "java/lang/Enum" ⟨"TideLots$Sign", "ordinal", "()I"⟩ yJx29ce0_ordinal_8abf5 wsJx29ce0_ordinal_8abf5) := sorry

abbrev rX9_combine : Room := { frames := 1, cells := 0, slots := 0, locals := 20 }
noncomputable def b_X9_combine_211 (Z : Nat → Nat) (M : gMem)  : Option (Int32 × gMem) :=
  some ((0 : Int32), M)
noncomputable def b_X9_combine_210 (Z : Nat → Nat) (M : gMem) (s0 : Int32) : Option (Int32 × gMem) :=
  some (s0, M)
noncomputable def b_X9_combine_199 (Z : Nat → Nat) (M : gMem) (s0 : Int32) : Option (Int32 × gMem) :=
  some (s0, M)
noncomputable def b_X9_combine_188 (Z : Nat → Nat) (M : gMem) (s0 : Int32) : Option (Int32 × gMem) :=
  some (s0, M)
noncomputable def b_X9_combine_177 (Z : Nat → Nat) (M : gMem) (s0 : Int32) : Option (Int32 × gMem) :=
  some (s0, M)
noncomputable def b_X9_combine_166 (Z : Nat → Nat) (M : gMem) (s0 : Int32) : Option (Int32 × gMem) :=
  some (s0, M)
noncomputable def b_X9_combine_135 (Z : Nat → Nat) (M : gMem) (s0 : Int32) : Option (Int32 × gMem) :=
  some (s0, M)
noncomputable def b_X9_combine_0 (Z : Nat → Nat) (M : gMem) (x0 : Option Nat) (x1 : Int32) (x2 : Int32) : Option (Int32 × gMem) :=
  dr (ordZ Z x0) fun o1 => (if (gSw o1) = (8 : Int32) then (if x2 ≤ x1 then b_X9_combine_166 Z M ((0 : Int32)) else b_X9_combine_166 Z M ((1 : Int32))) else (if (gSw o1) = (9 : Int32) then (if x1 ≤ x2 then b_X9_combine_177 Z M ((0 : Int32)) else b_X9_combine_177 Z M ((1 : Int32))) else (if (gSw o1) = (10 : Int32) then (if x1 = x2 then b_X9_combine_188 Z M ((1 : Int32)) else b_X9_combine_188 Z M ((0 : Int32))) else (if (gSw o1) = (11 : Int32) then (if x2 < x1 then b_X9_combine_199 Z M ((0 : Int32)) else b_X9_combine_199 Z M ((1 : Int32))) else (if (gSw o1) = (12 : Int32) then (if x1 < x2 then b_X9_combine_210 Z M ((0 : Int32)) else b_X9_combine_210 Z M ((1 : Int32))) else (if (gSw o1) = (13 : Int32) then b_X9_combine_211 Z M  else (if (gSw o1) = (14 : Int32) then b_X9_combine_211 Z M  else (if (gSw o1) = (15 : Int32) then b_X9_combine_211 Z M  else (if (gSw o1) = (16 : Int32) then b_X9_combine_211 Z M  else (if (gSw o1) = (17 : Int32) then b_X9_combine_211 Z M  else (if (gSw o1) = (18 : Int32) then b_X9_combine_211 Z M  else (if (gSw o1) = (19 : Int32) then b_X9_combine_211 Z M  else (if (gSw o1) = (20 : Int32) then some ((x1 - x2), M) else (if (gSw o1) = (21 : Int32) then b_X9_combine_211 Z M  else (if (gSw o1) = (22 : Int32) then some ((imin x1 x2), M) else (if (gSw o1) = (23 : Int32) then some ((imax x1 x2), M) else (if (gSw o1) = (24 : Int32) then b_X9_combine_211 Z M  else (if (gSw o1) = (25 : Int32) then some ((x1 + x2), M) else (if (gSw o1) = (26 : Int32) then some ((x1 * x2), M) else (if (gSw o1) = (27 : Int32) then (if x2 = 0 then b_X9_combine_135 Z M ((0 : Int32)) else ck (¬ x2 = 0) <| b_X9_combine_135 Z M ((x1 / x2))) else (if (gSw o1) = (28 : Int32) then some ((x1 &&& x2), M) else (if (gSw o1) = (29 : Int32) then some ((x1 ||| x2), M) else b_X9_combine_211 Z M ))))))))))))))))))))))
noncomputable def f_X9_combine (Z : Nat → Nat) (M : gMem) (x0 : Option Nat) (x1 : Int32) (x2 : Int32) : Option (Int32 × gMem) :=
  b_X9_combine_0 Z M x0 x1 x2
set_option maxHeartbeats 4000000 in
set_option maxRecDepth 100000 in
theorem t_X9_combine_211 (X : gX p s m args meth c D cy B (gSt Z B H0) RX9 cX9_combine wsX9_combine 3) (hr : meth.sig.returnType = (some .int)) {Q : State → Prop} : ∀ (M : gMem)  (z : Int32 × gMem), b_X9_combine_211 Z M  = some z → (fun (r : Int32 × gMem) => Q = gMQ below D cy B H0 args s 0 0 (some (vI r.1)) r.2) z → gGo p l e rX9_combine s m args below meth c D cy B H0 3 0 0 Q 211 [] [] M := sorry

set_option maxHeartbeats 4000000 in
set_option maxRecDepth 100000 in
theorem t_X9_combine_210 (X : gX p s m args meth c D cy B (gSt Z B H0) RX9 cX9_combine wsX9_combine 3) (hr : meth.sig.returnType = (some .int)) {Q : State → Prop} : ∀ (M : gMem) (s0 : Int32) (z : Int32 × gMem), b_X9_combine_210 Z M s0 = some z → (fun (r : Int32 × gMem) => Q = gMQ below D cy B H0 args s 0 0 (some (vI r.1)) r.2) z → gGo p l e rX9_combine s m args below meth c D cy B H0 3 0 0 Q 210 [] [vI s0] M := sorry

set_option maxHeartbeats 4000000 in
set_option maxRecDepth 100000 in
theorem t_X9_combine_199 (X : gX p s m args meth c D cy B (gSt Z B H0) RX9 cX9_combine wsX9_combine 3) (hr : meth.sig.returnType = (some .int)) {Q : State → Prop} : ∀ (M : gMem) (s0 : Int32) (z : Int32 × gMem), b_X9_combine_199 Z M s0 = some z → (fun (r : Int32 × gMem) => Q = gMQ below D cy B H0 args s 0 0 (some (vI r.1)) r.2) z → gGo p l e rX9_combine s m args below meth c D cy B H0 3 0 0 Q 199 [] [vI s0] M := sorry

set_option maxHeartbeats 4000000 in
set_option maxRecDepth 100000 in
theorem t_X9_combine_188 (X : gX p s m args meth c D cy B (gSt Z B H0) RX9 cX9_combine wsX9_combine 3) (hr : meth.sig.returnType = (some .int)) {Q : State → Prop} : ∀ (M : gMem) (s0 : Int32) (z : Int32 × gMem), b_X9_combine_188 Z M s0 = some z → (fun (r : Int32 × gMem) => Q = gMQ below D cy B H0 args s 0 0 (some (vI r.1)) r.2) z → gGo p l e rX9_combine s m args below meth c D cy B H0 3 0 0 Q 188 [] [vI s0] M := sorry

set_option maxHeartbeats 4000000 in
set_option maxRecDepth 100000 in
theorem t_X9_combine_177 (X : gX p s m args meth c D cy B (gSt Z B H0) RX9 cX9_combine wsX9_combine 3) (hr : meth.sig.returnType = (some .int)) {Q : State → Prop} : ∀ (M : gMem) (s0 : Int32) (z : Int32 × gMem), b_X9_combine_177 Z M s0 = some z → (fun (r : Int32 × gMem) => Q = gMQ below D cy B H0 args s 0 0 (some (vI r.1)) r.2) z → gGo p l e rX9_combine s m args below meth c D cy B H0 3 0 0 Q 177 [] [vI s0] M := sorry

set_option maxHeartbeats 4000000 in
set_option maxRecDepth 100000 in
theorem t_X9_combine_166 (X : gX p s m args meth c D cy B (gSt Z B H0) RX9 cX9_combine wsX9_combine 3) (hr : meth.sig.returnType = (some .int)) {Q : State → Prop} : ∀ (M : gMem) (s0 : Int32) (z : Int32 × gMem), b_X9_combine_166 Z M s0 = some z → (fun (r : Int32 × gMem) => Q = gMQ below D cy B H0 args s 0 0 (some (vI r.1)) r.2) z → gGo p l e rX9_combine s m args below meth c D cy B H0 3 0 0 Q 166 [] [vI s0] M := sorry

set_option maxHeartbeats 4000000 in
set_option maxRecDepth 100000 in
theorem t_X9_combine_135 (X : gX p s m args meth c D cy B (gSt Z B H0) RX9 cX9_combine wsX9_combine 3) (hr : meth.sig.returnType = (some .int)) {Q : State → Prop} : ∀ (M : gMem) (s0 : Int32) (z : Int32 × gMem), b_X9_combine_135 Z M s0 = some z → (fun (r : Int32 × gMem) => Q = gMQ below D cy B H0 args s 0 0 (some (vI r.1)) r.2) z → gGo p l e rX9_combine s m args below meth c D cy B H0 3 0 0 Q 135 [] [vI s0] M := sorry

set_option maxHeartbeats 4000000 in
set_option maxRecDepth 100000 in
theorem t_X9_combine_0 (X : gX p s m args meth c D cy B (gSt Z B H0) RX9 cX9_combine wsX9_combine 3) (hr : meth.sig.returnType = (some .int)) {Q : State → Prop} : ∀ (M : gMem) (x0 : Option Nat) (x1 : Int32) (x2 : Int32) (z : Int32 × gMem), b_X9_combine_0 Z M x0 x1 x2 = some z → (fun (r : Int32 × gMem) => Q = gMQ below D cy B H0 args s 0 0 (some (vI r.1)) r.2) z → gGo p l e rX9_combine s m args below meth c D cy B H0 3 0 0 Q 0 [(0, vR x0), (1, vI x1), (2, vI x2)] [] M := sorry

set_option maxHeartbeats 4000000 in
set_option maxRecDepth 100000 in
theorem m_X9_combine (l : Launch) {D : va_G} {cy : Nat → ClassId} {B : Nat} {H0 : Heap} {Z : Nat → Nat} {M M1 : gMem} {x0 : Option Nat} {x1 : Int32} {x2 : Int32} {r : Int32} (hf : f_X9_combine Z M x0 x1 x2 = some (r, M1)) : Met l yX9_combine wsX9_combine rX9_combine (va_Pc (List.map gv [vR x0, vI x1, vI x2]) (gPre D cy B H0 (gSt Z B H0) M)) (gQ D cy B H0 (some (vI r)) M1) 0 0 (gA B) := sorry

/-! ## TideLots$Sums.reckon(IILTideLots$Shore;)I -/
set_option maxRecDepth 20000 in
set_option maxRecDepth 20000 in
theorem gX9_reckon_X9_combine : GoodIn wsX9_reckon (va_wsS RX9 48 yX9_combine wsX9_combine) := sorry

set_option maxRecDepth 20000 in
set_option maxRecDepth 20000 in
theorem gX9_reckon_X9_valueOn : GoodIn wsX9_reckon (va_wsS RX9 41 yX9_valueOn wsX9_valueOn) := sorry

set_option maxRecDepth 20000 in
set_option maxRecDepth 20000 in
theorem gX9_reckon_Jx29ce0_ordinal_8abf5_u37X8 : GoodIn wsX9_reckon (va_wsU RX9 37 RX8 "java/lang/Enum" ⟨"TideLots$Sign", "ordinal", "()I"⟩ yJx29ce0_ordinal_8abf5 wsJx29ce0_ordinal_8abf5) := sorry

theorem i_X9_reckon_X9 : ∀ w ∈ u_ws RX9 TX9 4, w ∈ wsX9_reckon := sorry

abbrev rX9_reckon : Room := { frames := 2, cells := 0, slots := 0, locals := 44 }
noncomputable def b_X9_reckon_289 (Z : Nat → Nat) (M : gMem) (s0 : Int32) : Option (Int32 × gMem) :=
  some (s0, M)
noncomputable def b_X9_reckon_274 (Z : Nat → Nat) (M : gMem) (x0 : Nat) (x4 : Int32) : Option (Int32 × gMem) :=
  (if x4 ≤ 0 then b_X9_reckon_289 Z M ((0 : Int32)) else ck (mT M x0 = 8) <| dr ((mR M x0 3)) fun a2 => ck (mT M a2 = 20) <| ck (inb (0 : Int32) (mL M a2)) <| b_X9_reckon_289 Z M ((mI M a2 ((0 : Int32)).toNatClampNeg)))
noncomputable def b_X9_reckon_268 (Z : Nat → Nat) (M : gMem) (x0 : Nat) (x2 : Int32) (x3 : Option Nat) (x4 : Int32) (x5 : Int32) : Option ((gMem × Int32 × Int32) ⊕ (Int32 × gMem)) :=
  some (.inl (M, x4, (x5 + (1 : Int32))))
noncomputable def b_X9_reckon_224 (Z : Nat → Nat) (M : gMem) (x0 : Nat) (x2 : Int32) (x3 : Option Nat) (x4 : Int32) (x5 : Int32) : Option ((gMem × Int32 × Int32) ⊕ (Int32 × gMem)) :=
  (if x4 < (2 : Int32) then b_X9_reckon_268 Z M x0 x2 x3 x4 x5 else ck (mT M x0 = 8) <| dr ((mR M x0 1)) fun a6 => ck (mT M a6 = 27) <| ck (inb x5 (mL M a6)) <| dr ((mR M x0 3)) fun a9 => ck (mT M a9 = 20) <| ck (inb ((x4 + (-1 : Int32)) - (1 : Int32)) (mL M a9)) <| ck (inb (x4 + (-1 : Int32)) (mL M a9)) <| bd (f_X9_combine Z M ((mR M a6 x5.toNatClampNeg)) ((mI M a9 (((x4 + (-1 : Int32)) - (1 : Int32))).toNatClampNeg)) ((mI M a9 ((x4 + (-1 : Int32))).toNatClampNeg))) fun r13 M13 => ck (mT M13 a9 = 20) <| ck (inb ((x4 + (-1 : Int32)) - (1 : Int32)) (mL M13 a9)) <| lw (wI M13 a9 (((x4 + (-1 : Int32)) - (1 : Int32))).toNatClampNeg r13) fun M16 => b_X9_reckon_268 Z M16 x0 x2 x3 ((x4 + (-1 : Int32))) x5)
noncomputable def b_X9_reckon_220 (Z : Nat → Nat) (M : gMem) (x0 : Nat) (x2 : Int32) (x3 : Option Nat) (x4 : Int32) (x5 : Int32) (s0 : Option Nat) (s1 : Int32) (s2 : Int32) : Option ((gMem × Int32 × Int32) ⊕ (Int32 × gMem)) :=
  dr s0 fun a18 => ck (mT M a18 = 20) <| ck (inb s1 (mL M a18)) <| lw (wI M a18 s1.toNatClampNeg s2) fun M21 => b_X9_reckon_268 Z M21 x0 x2 x3 x4 x5
noncomputable def b_X9_reckon_169 (Z : Nat → Nat) (M : gMem) (x0 : Nat) (x2 : Int32) (x3 : Option Nat) (x4 : Int32) (x5 : Int32) : Option ((gMem × Int32 × Int32) ⊕ (Int32 × gMem)) :=
  (if x4 < (1 : Int32) then b_X9_reckon_268 Z M x0 x2 x3 x4 x5 else ck (mT M x0 = 8) <| dr ((mR M x0 1)) fun a24 => ck (mT M a24 = 27) <| ck (inb x5 (mL M a24)) <| (if (mR M a24 x5.toNatClampNeg) = (some (Z 20)) then dr ((mR M x0 3)) fun a30 => ck (mT M a30 = 20) <| ck (inb (x4 - (1 : Int32)) (mL M a30)) <| b_X9_reckon_220 Z M x0 x2 x3 x4 x5 ((mR M x0 3)) ((x4 - (1 : Int32))) (((1 : Int32) - (mI M a30 ((x4 - (1 : Int32))).toNatClampNeg))) else dr ((mR M x0 3)) fun a27 => ck (mT M a27 = 20) <| ck (inb (x4 - (1 : Int32)) (mL M a27)) <| b_X9_reckon_220 Z M x0 x2 x3 x4 x5 ((mR M x0 3)) ((x4 - (1 : Int32))) ((-(mI M a27 ((x4 - (1 : Int32))).toNatClampNeg)))))
noncomputable def b_X9_reckon_128 (Z : Nat → Nat) (M : gMem) (x0 : Nat) (x2 : Int32) (x3 : Option Nat) (x4 : Int32) (x5 : Int32) : Option ((gMem × Int32 × Int32) ⊕ (Int32 × gMem)) :=
  ck (mT M x0 = 8) <| dr ((mR M x0 3)) fun a34 => ck (mT M a34 = 20) <| (if (Int32.ofNat (mL M a34)) ≤ x4 then b_X9_reckon_268 Z M x0 x2 x3 x4 x5 else dr ((mR M x0 1)) fun a36 => ck (mT M a36 = 27) <| ck (inb x5 (mL M a36)) <| dr ((mR M x0 2)) fun a39 => ck (mT M a39 = 20) <| ck (inb x5 (mL M a39)) <| bd (f_X9_valueOn Z M x3 ((mR M a36 x5.toNatClampNeg)) ((mI M a39 x5.toNatClampNeg))) fun r42 M42 => ck (mT M42 a34 = 20) <| ck (inb x4 (mL M42 a34)) <| lw (wI M42 a34 x4.toNatClampNeg r42) fun M45 => b_X9_reckon_268 Z M45 x0 x2 x3 ((x4 + (1 : Int32))) x5)
noncomputable def bb_X9_reckon_6 (Z : Nat → Nat) (M : gMem) (x0 : Nat) (x2 : Int32) (x3 : Option Nat) (x4 : Int32) (x5 : Int32) : Option ((gMem × Int32 × Int32) ⊕ (Int32 × gMem)) :=
  (if x2 ≤ x5 then oI (b_X9_reckon_274 Z M x0 x4) else ck (mT M x0 = 8) <| (if (mI M x0 0) ≤ x5 then oI (b_X9_reckon_274 Z M x0 x4) else dr ((mR M x0 1)) fun a50 => ck (mT M a50 = 27) <| ck (inb x5 (mL M a50)) <| dr (ordZ Z ((mR M a50 x5.toNatClampNeg))) fun o53 => (if (gSw o53) = (5 : Int32) then b_X9_reckon_169 Z M x0 x2 x3 x4 x5 else (if (gSw o53) = (6 : Int32) then b_X9_reckon_224 Z M x0 x2 x3 x4 x5 else (if (gSw o53) = (7 : Int32) then b_X9_reckon_128 Z M x0 x2 x3 x4 x5 else (if (gSw o53) = (8 : Int32) then b_X9_reckon_224 Z M x0 x2 x3 x4 x5 else (if (gSw o53) = (9 : Int32) then b_X9_reckon_224 Z M x0 x2 x3 x4 x5 else (if (gSw o53) = (10 : Int32) then b_X9_reckon_224 Z M x0 x2 x3 x4 x5 else (if (gSw o53) = (11 : Int32) then b_X9_reckon_224 Z M x0 x2 x3 x4 x5 else (if (gSw o53) = (12 : Int32) then b_X9_reckon_224 Z M x0 x2 x3 x4 x5 else (if (gSw o53) = (13 : Int32) then b_X9_reckon_128 Z M x0 x2 x3 x4 x5 else (if (gSw o53) = (14 : Int32) then b_X9_reckon_128 Z M x0 x2 x3 x4 x5 else (if (gSw o53) = (15 : Int32) then b_X9_reckon_128 Z M x0 x2 x3 x4 x5 else (if (gSw o53) = (16 : Int32) then b_X9_reckon_128 Z M x0 x2 x3 x4 x5 else (if (gSw o53) = (17 : Int32) then b_X9_reckon_128 Z M x0 x2 x3 x4 x5 else (if (gSw o53) = (18 : Int32) then b_X9_reckon_128 Z M x0 x2 x3 x4 x5 else (if (gSw o53) = (19 : Int32) then b_X9_reckon_128 Z M x0 x2 x3 x4 x5 else (if (gSw o53) = (20 : Int32) then b_X9_reckon_224 Z M x0 x2 x3 x4 x5 else (if (gSw o53) = (21 : Int32) then b_X9_reckon_224 Z M x0 x2 x3 x4 x5 else (if (gSw o53) = (22 : Int32) then b_X9_reckon_224 Z M x0 x2 x3 x4 x5 else (if (gSw o53) = (23 : Int32) then b_X9_reckon_224 Z M x0 x2 x3 x4 x5 else (if (gSw o53) = (24 : Int32) then b_X9_reckon_169 Z M x0 x2 x3 x4 x5 else b_X9_reckon_224 Z M x0 x2 x3 x4 x5))))))))))))))))))))))
noncomputable def lp_X9_reckon_6 (Z : Nat → Nat) (M : gMem) (x0 : Nat) (x2 : Int32) (x3 : Option Nat) (x4 : Int32) (x5 : Int32) : Option (Int32 × gMem) :=
  lp (fun (q : gMem × Int32 × Int32) => bb_X9_reckon_6 Z q.1 x0 x2 x3 q.2.1 q.2.2) (M, x4, x5)
noncomputable def b_X9_reckon_0 (Z : Nat → Nat) (M : gMem) (x0 : Nat) (x1 : Int32) (x2 : Int32) (x3 : Option Nat) : Option (Int32 × gMem) :=
  lp_X9_reckon_6 Z M x0 x2 x3 ((0 : Int32)) x1
noncomputable def f_X9_reckon (Z : Nat → Nat) (M : gMem) (x0 : Nat) (x1 : Int32) (x2 : Int32) (x3 : Option Nat) : Option (Int32 × gMem) :=
  b_X9_reckon_0 Z M x0 x1 x2 x3
set_option maxHeartbeats 4000000 in
set_option maxRecDepth 100000 in
theorem t_X9_reckon_289 (X : gX p s m args meth c D cy B (gSt Z B H0) RX9 cX9_reckon wsX9_reckon 6) (hr : meth.sig.returnType = (some .int)) {Q : State → Prop} : ∀ (M : gMem) (s0 : Int32) (z : Int32 × gMem), b_X9_reckon_289 Z M s0 = some z → (fun (r : Int32 × gMem) => Q = gMQ below D cy B H0 args s 0 0 (some (vI r.1)) r.2) z → gGo p l e rX9_reckon s m args below meth c D cy B H0 6 0 0 Q 289 [] [vI s0] M := sorry

set_option maxHeartbeats 4000000 in
set_option maxRecDepth 100000 in
theorem t_X9_reckon_274 (X : gX p s m args meth c D cy B (gSt Z B H0) RX9 cX9_reckon wsX9_reckon 6) (hr : meth.sig.returnType = (some .int)) {Q : State → Prop} : ∀ (M : gMem) (x0 : Nat) (x4 : Int32) (z : Int32 × gMem), b_X9_reckon_274 Z M x0 x4 = some z → (fun (r : Int32 × gMem) => Q = gMQ below D cy B H0 args s 0 0 (some (vI r.1)) r.2) z → gGo p l e rX9_reckon s m args below meth c D cy B H0 6 0 0 Q 274 [(0, vR (some x0)), (4, vI x4)] [] M := sorry

set_option maxHeartbeats 4000000 in
set_option maxRecDepth 100000 in
theorem t_X9_reckon_268 (X : gX p s m args meth c D cy B (gSt Z B H0) RX9 cX9_reckon wsX9_reckon 6) (hr : meth.sig.returnType = (some .int)) {Q : State → Prop} : ∀ (M : gMem) (x0 : Nat) (x2 : Int32) (x3 : Option Nat) (x4 : Int32) (x5 : Int32) (z : (gMem × Int32 × Int32) ⊕ (Int32 × gMem)), b_X9_reckon_268 Z M x0 x2 x3 x4 x5 = some z → (Sum.elim (fun (q : gMem × Int32 × Int32) => gGo p l e rX9_reckon s m args below meth c D cy B H0 6 0 0 Q 6 [(0, vR (some x0)), (2, vI x2), (3, vR x3), (4, vI q.2.1), (5, vI q.2.2)] [] q.1) (fun (r : Int32 × gMem) => Q = gMQ below D cy B H0 args s 0 0 (some (vI r.1)) r.2)) z → gGo p l e rX9_reckon s m args below meth c D cy B H0 6 0 0 Q 268 [(0, vR (some x0)), (2, vI x2), (3, vR x3), (4, vI x4), (5, vI x5)] [] M := sorry

set_option maxHeartbeats 4000000 in
set_option maxRecDepth 100000 in
theorem t_X9_reckon_224 (X : gX p s m args meth c D cy B (gSt Z B H0) RX9 cX9_reckon wsX9_reckon 6) (hr : meth.sig.returnType = (some .int)) {Q : State → Prop} : ∀ (M : gMem) (x0 : Nat) (x2 : Int32) (x3 : Option Nat) (x4 : Int32) (x5 : Int32) (z : (gMem × Int32 × Int32) ⊕ (Int32 × gMem)), b_X9_reckon_224 Z M x0 x2 x3 x4 x5 = some z → (Sum.elim (fun (q : gMem × Int32 × Int32) => gGo p l e rX9_reckon s m args below meth c D cy B H0 6 0 0 Q 6 [(0, vR (some x0)), (2, vI x2), (3, vR x3), (4, vI q.2.1), (5, vI q.2.2)] [] q.1) (fun (r : Int32 × gMem) => Q = gMQ below D cy B H0 args s 0 0 (some (vI r.1)) r.2)) z → gGo p l e rX9_reckon s m args below meth c D cy B H0 6 0 0 Q 224 [(0, vR (some x0)), (2, vI x2), (3, vR x3), (4, vI x4), (5, vI x5)] [] M := sorry

set_option maxHeartbeats 4000000 in
set_option maxRecDepth 100000 in
theorem t_X9_reckon_220 (X : gX p s m args meth c D cy B (gSt Z B H0) RX9 cX9_reckon wsX9_reckon 6) (hr : meth.sig.returnType = (some .int)) {Q : State → Prop} : ∀ (M : gMem) (x0 : Nat) (x2 : Int32) (x3 : Option Nat) (x4 : Int32) (x5 : Int32) (s0 : Option Nat) (s1 : Int32) (s2 : Int32) (z : (gMem × Int32 × Int32) ⊕ (Int32 × gMem)), b_X9_reckon_220 Z M x0 x2 x3 x4 x5 s0 s1 s2 = some z → (Sum.elim (fun (q : gMem × Int32 × Int32) => gGo p l e rX9_reckon s m args below meth c D cy B H0 6 0 0 Q 6 [(0, vR (some x0)), (2, vI x2), (3, vR x3), (4, vI q.2.1), (5, vI q.2.2)] [] q.1) (fun (r : Int32 × gMem) => Q = gMQ below D cy B H0 args s 0 0 (some (vI r.1)) r.2)) z → gGo p l e rX9_reckon s m args below meth c D cy B H0 6 0 0 Q 220 [(0, vR (some x0)), (2, vI x2), (3, vR x3), (4, vI x4), (5, vI x5)] [vI s2, vI s1, vR s0] M := sorry

set_option maxHeartbeats 4000000 in
set_option maxRecDepth 100000 in
theorem t_X9_reckon_169 (X : gX p s m args meth c D cy B (gSt Z B H0) RX9 cX9_reckon wsX9_reckon 6) (hr : meth.sig.returnType = (some .int)) {Q : State → Prop} : ∀ (M : gMem) (x0 : Nat) (x2 : Int32) (x3 : Option Nat) (x4 : Int32) (x5 : Int32) (z : (gMem × Int32 × Int32) ⊕ (Int32 × gMem)), b_X9_reckon_169 Z M x0 x2 x3 x4 x5 = some z → (Sum.elim (fun (q : gMem × Int32 × Int32) => gGo p l e rX9_reckon s m args below meth c D cy B H0 6 0 0 Q 6 [(0, vR (some x0)), (2, vI x2), (3, vR x3), (4, vI q.2.1), (5, vI q.2.2)] [] q.1) (fun (r : Int32 × gMem) => Q = gMQ below D cy B H0 args s 0 0 (some (vI r.1)) r.2)) z → gGo p l e rX9_reckon s m args below meth c D cy B H0 6 0 0 Q 169 [(0, vR (some x0)), (2, vI x2), (3, vR x3), (4, vI x4), (5, vI x5)] [] M := sorry

set_option maxHeartbeats 4000000 in
set_option maxRecDepth 100000 in
theorem t_X9_reckon_128 (X : gX p s m args meth c D cy B (gSt Z B H0) RX9 cX9_reckon wsX9_reckon 6) (hr : meth.sig.returnType = (some .int)) {Q : State → Prop} : ∀ (M : gMem) (x0 : Nat) (x2 : Int32) (x3 : Option Nat) (x4 : Int32) (x5 : Int32) (z : (gMem × Int32 × Int32) ⊕ (Int32 × gMem)), b_X9_reckon_128 Z M x0 x2 x3 x4 x5 = some z → (Sum.elim (fun (q : gMem × Int32 × Int32) => gGo p l e rX9_reckon s m args below meth c D cy B H0 6 0 0 Q 6 [(0, vR (some x0)), (2, vI x2), (3, vR x3), (4, vI q.2.1), (5, vI q.2.2)] [] q.1) (fun (r : Int32 × gMem) => Q = gMQ below D cy B H0 args s 0 0 (some (vI r.1)) r.2)) z → gGo p l e rX9_reckon s m args below meth c D cy B H0 6 0 0 Q 128 [(0, vR (some x0)), (2, vI x2), (3, vR x3), (4, vI x4), (5, vI x5)] [] M := sorry

set_option maxHeartbeats 4000000 in
set_option maxRecDepth 100000 in
set_option maxHeartbeats 4000000 in
set_option maxRecDepth 100000 in
set_option maxHeartbeats 4000000 in
set_option maxRecDepth 100000 in
theorem t_X9_reckon_0 (X : gX p s m args meth c D cy B (gSt Z B H0) RX9 cX9_reckon wsX9_reckon 6) (hr : meth.sig.returnType = (some .int)) {Q : State → Prop} : ∀ (M : gMem) (x0 : Nat) (x1 : Int32) (x2 : Int32) (x3 : Option Nat) (z : Int32 × gMem), b_X9_reckon_0 Z M x0 x1 x2 x3 = some z → (fun (r : Int32 × gMem) => Q = gMQ below D cy B H0 args s 0 0 (some (vI r.1)) r.2) z → gGo p l e rX9_reckon s m args below meth c D cy B H0 6 0 0 Q 0 [(0, vR (some x0)), (1, vI x1), (2, vI x2), (3, vR x3)] [] M := sorry

set_option maxHeartbeats 4000000 in
set_option maxRecDepth 100000 in
theorem m_X9_reckon (l : Launch) {D : va_G} {cy : Nat → ClassId} {B : Nat} {H0 : Heap} {Z : Nat → Nat} {M M1 : gMem} {x0 : Nat} {x1 : Int32} {x2 : Int32} {x3 : Option Nat} {r : Int32} (hf : f_X9_reckon Z M x0 x1 x2 x3 = some (r, M1)) : Met l yX9_reckon wsX9_reckon rX9_reckon (va_Pc (Value.ref x0 :: List.map gv [vI x1, vI x2, vR x3]) (gPre D cy B H0 (gSt Z B H0) M)) (gQ D cy B H0 (some (vI r)) M1) 0 0 (gA B) := sorry

end
