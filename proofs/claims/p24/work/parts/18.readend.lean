section
variable {p : Program} {l : Launch} {e : Env} {s : State} {m : MethodId} {args : Array Value} {below : List Frame} {meth : Method} {c : Code} {D : va_G} {cy : Nat → ClassId} {B : Nat} {H0 : Heap} {Z : Nat → Nat}
/-! ## TideLots$Reader.goLine()Z -/
set_option maxRecDepth 20000 in
set_option maxRecDepth 20000 in
theorem gX6_goLine_X7_nextGo : GoodIn wsX6_goLine (wsV RX6 172 RX7 yX7_nextGo wsX7_nextGo) := sorry

set_option maxRecDepth 20000 in
set_option maxRecDepth 20000 in
theorem gX6_goLine_X6_take : GoodIn wsX6_goLine (wsV RX6 79 RX6 yX6_take wsX6_take) := sorry

set_option maxRecDepth 20000 in
set_option maxRecDepth 20000 in
theorem gX6_goLine_X6_takeKnown : GoodIn wsX6_goLine (wsV RX6 179 RX6 yX6_takeKnown wsX6_takeKnown) := sorry

set_option maxRecDepth 20000 in
set_option maxRecDepth 20000 in
theorem gX6_goLine_X6_test : GoodIn wsX6_goLine (wsV RX6 208 RX6 yX6_test wsX6_test) := sorry

set_option maxRecDepth 20000 in
set_option maxRecDepth 20000 in
theorem gX6_goLine_X6_noteError : GoodIn wsX6_goLine (wsV RX6 133 RX6 yX6_noteError wsX6_noteError) := sorry

theorem i_X6_goLine_X6 : ∀ w ∈ u_ws RX6 TX6 9, w ∈ wsX6_goLine := sorry

theorem i_X6_goLine_X7 : ∀ w ∈ u_ws RX7 TX7 17, w ∈ wsX6_goLine := sorry

theorem i_X6_goLine_X9 : ∀ w ∈ u_ws RX9 TX9 4, w ∈ wsX6_goLine := sorry

theorem i_X6_goLine_X2 : ∀ w ∈ u_ws RX2 TX2 4, w ∈ wsX6_goLine := sorry

abbrev rX6_goLine : Room := { frames := 67, cells := 0, slots := 0, locals := 2626 }
noncomputable def b_X6_goLine_121 (Z : Nat → Nat) (M : gMem) (x0 : Nat) (x1 : Option Nat) : Option (Int32 × gMem) :=
  ck (mT M x0 = 6) <| dr ((mR M x0 2)) fun a2 => ck (mT M a2 = 7) <| dr ((mR M a2 10)) fun a4 => ck (mT M a4 = 8) <| dr x1 fun a6 => ck (mT M a6 = 2) <| lw (wI M a6 3 ((mI M a4 0))) fun M8 => some ((1 : Int32), M8)
noncomputable def b_X6_goLine_77 (Z : Nat → Nat) (M : gMem)  : Option (Int32 × gMem) :=
  some ((0 : Int32), M)
noncomputable def b_X6_goLine_46 (Z : Nat → Nat) (M : gMem)  : Option (Int32 × gMem) :=
  some ((0 : Int32), M)
noncomputable def b_X6_goLine_17 (Z : Nat → Nat) (M : gMem) (x0 : Nat) : Option (Int32 × gMem) :=
  ck (mT M x0 = 6) <| dr ((mR M x0 2)) fun a15 => ck (mT M a15 = 7) <| bd (f_X7_nextGo M a15) fun r14 M14 => ck (mT M14 x0 = 6) <| bd (f_X6_take M14 x0 ((some (Z 7)))) fun r17 M17 => (if r17 = 0 then b_X6_goLine_46 Z M17  else ck (mT M17 x0 = 6) <| bd (f_X6_takeKnown Z M17 x0 ((mR M17 x0 4))) fun r20 M20 => (if r20 = 0 then b_X6_goLine_46 Z M20  else ck (mT M20 x0 = 6) <| dr r14 fun a22 => ck (mT M20 a22 = 2) <| lw (wI M20 a22 0 ((mI M20 x0 8))) fun M24 => bd (f_X6_take M24 x0 ((some (Z 8)))) fun r27 M27 => (if r27 = 0 then b_X6_goLine_77 Z M27  else ck (mT M27 x0 = 6) <| bd (f_X6_takeKnown Z M27 x0 ((mR M27 x0 3))) fun r29 M29 => (if r29 = 0 then b_X6_goLine_77 Z M29  else ck (mT M29 x0 = 6) <| ck (mT M29 a22 = 2) <| lw (wI M29 a22 1 ((mI M29 x0 8))) fun M32 => dr ((mR M32 x0 2)) fun a35 => ck (mT M32 a35 = 7) <| dr ((mR M32 a35 10)) fun a37 => ck (mT M32 a37 = 8) <| lw (wI M32 a22 2 ((mI M32 a37 0))) fun M39 => bd (f_X6_take M39 x0 ((some (Z 9)))) fun r44 M44 => (if r44 = 0 then b_X6_goLine_121 Z M44 x0 r14 else ck (mT M44 x0 = 6) <| bd (f_X6_test Z M44 x0 ((0 : Int32))) fun r45 M45 => (if r45 = 0 then some ((0 : Int32), M45) else b_X6_goLine_121 Z M45 x0 r14))))))
noncomputable def b_X6_goLine_0 (Z : Nat → Nat) (M : gMem) (x0 : Nat) : Option (Int32 × gMem) :=
  ck (mT M x0 = 6) <| dr ((mR M x0 2)) fun a48 => ck (mT M a48 = 7) <| (if (mI M a48 4) < (24 : Int32) then b_X6_goLine_17 Z M x0 else bd (f_X6_noteError M x0 ((4 : Int32))) fun _ M50 => b_X6_goLine_17 Z M50 x0)
noncomputable def f_X6_goLine (Z : Nat → Nat) (M : gMem) (x0 : Nat) : Option (Int32 × gMem) :=
  b_X6_goLine_0 Z M x0
set_option maxHeartbeats 4000000 in
set_option maxRecDepth 100000 in
theorem t_X6_goLine_121 (X : gX p s m args meth c D cy B (gSt Z B H0) RX6 cX6_goLine wsX6_goLine 2) (hr : meth.sig.returnType = (some .boolean)) {Q : State → Prop} : ∀ (M : gMem) (x0 : Nat) (x1 : Option Nat) (z : Int32 × gMem), b_X6_goLine_121 Z M x0 x1 = some z → (fun (r : Int32 × gMem) => Q = gMQ below D cy B H0 args s 0 0 (some (vI r.1)) r.2) z → gGo p l e rX6_goLine s m args below meth c D cy B H0 2 0 0 Q 121 [(0, vR (some x0)), (1, vR x1)] [] M := sorry

set_option maxHeartbeats 4000000 in
set_option maxRecDepth 100000 in
theorem t_X6_goLine_77 (X : gX p s m args meth c D cy B (gSt Z B H0) RX6 cX6_goLine wsX6_goLine 2) (hr : meth.sig.returnType = (some .boolean)) {Q : State → Prop} : ∀ (M : gMem)  (z : Int32 × gMem), b_X6_goLine_77 Z M  = some z → (fun (r : Int32 × gMem) => Q = gMQ below D cy B H0 args s 0 0 (some (vI r.1)) r.2) z → gGo p l e rX6_goLine s m args below meth c D cy B H0 2 0 0 Q 77 [] [] M := sorry

set_option maxHeartbeats 4000000 in
set_option maxRecDepth 100000 in
theorem t_X6_goLine_46 (X : gX p s m args meth c D cy B (gSt Z B H0) RX6 cX6_goLine wsX6_goLine 2) (hr : meth.sig.returnType = (some .boolean)) {Q : State → Prop} : ∀ (M : gMem)  (z : Int32 × gMem), b_X6_goLine_46 Z M  = some z → (fun (r : Int32 × gMem) => Q = gMQ below D cy B H0 args s 0 0 (some (vI r.1)) r.2) z → gGo p l e rX6_goLine s m args below meth c D cy B H0 2 0 0 Q 46 [] [] M := sorry

set_option maxHeartbeats 4000000 in
set_option maxRecDepth 100000 in
theorem t_X6_goLine_17 (X : gX p s m args meth c D cy B (gSt Z B H0) RX6 cX6_goLine wsX6_goLine 2) (hr : meth.sig.returnType = (some .boolean)) {Q : State → Prop} : ∀ (M : gMem) (x0 : Nat) (z : Int32 × gMem), b_X6_goLine_17 Z M x0 = some z → (fun (r : Int32 × gMem) => Q = gMQ below D cy B H0 args s 0 0 (some (vI r.1)) r.2) z → gGo p l e rX6_goLine s m args below meth c D cy B H0 2 0 0 Q 17 [(0, vR (some x0))] [] M := sorry

set_option maxHeartbeats 4000000 in
set_option maxRecDepth 100000 in
theorem t_X6_goLine_0 (X : gX p s m args meth c D cy B (gSt Z B H0) RX6 cX6_goLine wsX6_goLine 2) (hr : meth.sig.returnType = (some .boolean)) {Q : State → Prop} : ∀ (M : gMem) (x0 : Nat) (z : Int32 × gMem), b_X6_goLine_0 Z M x0 = some z → (fun (r : Int32 × gMem) => Q = gMQ below D cy B H0 args s 0 0 (some (vI r.1)) r.2) z → gGo p l e rX6_goLine s m args below meth c D cy B H0 2 0 0 Q 0 [(0, vR (some x0))] [] M := sorry

set_option maxHeartbeats 4000000 in
set_option maxRecDepth 100000 in
theorem m_X6_goLine (l : Launch) {D : va_G} {cy : Nat → ClassId} {B : Nat} {H0 : Heap} {Z : Nat → Nat} {M M1 : gMem} {x0 : Nat} {r : Int32} (hf : f_X6_goLine Z M x0 = some (r, M1)) : Met l yX6_goLine wsX6_goLine rX6_goLine (va_Pc (Value.ref x0 :: List.map gv []) (gPre D cy B H0 (gSt Z B H0) M)) (gQ D cy B H0 (some (vI r)) M1) 0 0 (gA B) := sorry

/-! ## TideLots$Reader.pactLine()Z -/
set_option maxRecDepth 20000 in
set_option maxRecDepth 20000 in
theorem gX6_pactLine_X6_take : GoodIn wsX6_pactLine (wsV RX6 79 RX6 yX6_take wsX6_take) := sorry

set_option maxRecDepth 20000 in
set_option maxRecDepth 20000 in
theorem gX6_pactLine_X6_takeKnown : GoodIn wsX6_pactLine (wsV RX6 179 RX6 yX6_takeKnown wsX6_takeKnown) := sorry

set_option maxRecDepth 20000 in
set_option maxRecDepth 20000 in
theorem gX6_pactLine_X6_sum : GoodIn wsX6_pactLine (wsV RX6 244 RX6 yX6_sum wsX6_sum) := sorry

set_option maxRecDepth 20000 in
set_option maxRecDepth 20000 in
theorem gX6_pactLine_X6_takeMember : GoodIn wsX6_pactLine (wsV RX6 225 RX6 yX6_takeMember wsX6_takeMember) := sorry

set_option maxRecDepth 20000 in
set_option maxRecDepth 20000 in
theorem gX6_pactLine_X6_takeNew : GoodIn wsX6_pactLine (wsV RX6 97 RX6 yX6_takeNew wsX6_takeNew) := sorry

set_option maxRecDepth 20000 in
set_option maxRecDepth 20000 in
theorem gX6_pactLine_X7_nextPact : GoodIn wsX6_pactLine (wsV RX6 218 RX7 yX7_nextPact wsX7_nextPact) := sorry

theorem i_X6_pactLine_X6 : ∀ w ∈ u_ws RX6 TX6 9, w ∈ wsX6_pactLine := sorry

theorem i_X6_pactLine_X5 : ∀ w ∈ u_ws RX5 TX5 8, w ∈ wsX6_pactLine := sorry

theorem i_X6_pactLine_X7 : ∀ w ∈ u_ws RX7 TX7 17, w ∈ wsX6_pactLine := sorry

theorem i_X6_pactLine_X9 : ∀ w ∈ u_ws RX9 TX9 4, w ∈ wsX6_pactLine := sorry

abbrev rX6_pactLine : Room := { frames := 67, cells := 0, slots := 0, locals := 2627 }
noncomputable def b_X6_pactLine_161 (Z : Nat → Nat) (M : gMem)  : Option (Int32 × gMem) :=
  some ((0 : Int32), M)
noncomputable def b_X6_pactLine_119 (Z : Nat → Nat) (M : gMem)  : Option (Int32 × gMem) :=
  some ((0 : Int32), M)
noncomputable def b_X6_pactLine_86 (Z : Nat → Nat) (M : gMem) (x0 : Nat) (x1 : Option Nat) : Option (Int32 × gMem) :=
  ck (mT M x0 = 6) <| bd (f_X6_take M x0 ((some (Z 12)))) fun r1 M1 => (if r1 = 0 then ck (mT M1 x0 = 6) <| bd (f_X6_take M1 x0 ((some (Z 13)))) fun r3 M3 => (if r3 = 0 then b_X6_pactLine_119 Z M3  else ck (mT M3 x0 = 6) <| bd (f_X6_takeKnown Z M3 x0 ((mR M3 x0 3))) fun r6 M6 => (if r6 = 0 then b_X6_pactLine_119 Z M6  else ck (mT M6 x0 = 6) <| dr x1 fun a8 => ck (mT M6 a8 = 5) <| lw (wI M6 a8 0 ((mI M6 x0 8))) fun M10 => dr ((mR M10 x0 2)) fun a13 => ck (mT M10 a13 = 7) <| dr ((mR M10 a13 10)) fun a15 => ck (mT M10 a15 = 8) <| lw (wI M10 a8 1 ((mI M10 a15 0))) fun M17 => bd (f_X6_take M17 x0 ((some (Z 14)))) fun r22 M22 => (if r22 = 0 then b_X6_pactLine_161 Z M22  else ck (mT M22 x0 = 6) <| bd (f_X6_sum Z M22 x0 ((0 : Int32))) fun r23 M23 => (if r23 = 0 then b_X6_pactLine_161 Z M23  else ck (mT M23 x0 = 6) <| dr ((mR M23 x0 2)) fun a26 => ck (mT M23 a26 = 7) <| dr ((mR M23 a26 10)) fun a28 => ck (mT M23 a28 = 8) <| ck (mT M23 a8 = 5) <| lw (wI M23 a8 2 ((mI M23 a28 0))) fun M31 => some ((1 : Int32), M31))))) else some ((1 : Int32), M1))
noncomputable def bb_X6_pactLine_53 (Z : Nat → Nat) (M : gMem) (x0 : Nat) (x1 : Option Nat) (x2 : Int32) : Option ((gMem × Int32) ⊕ (Int32 × gMem)) :=
  (if (400 : Int32) ≤ x2 then oI (b_X6_pactLine_86 Z M x0 x1) else ck (mT M x0 = 6) <| bd (f_X6_take M x0 ((some (Z 30)))) fun r37 M37 => (if r37 = 0 then oI (b_X6_pactLine_86 Z M37 x0 x1) else ck (mT M37 x0 = 6) <| bd (f_X6_takeMember Z M37 x0 x1) fun r40 M40 => (if r40 = 0 then oI (some ((0 : Int32), M40)) else some (.inl (M40, (x2 + (1 : Int32)))))))
noncomputable def lp_X6_pactLine_53 (Z : Nat → Nat) (M : gMem) (x0 : Nat) (x1 : Option Nat) (x2 : Int32) : Option (Int32 × gMem) :=
  lp (fun (q : gMem × Int32) => bb_X6_pactLine_53 Z q.1 x0 x1 q.2) (M, x2)
noncomputable def b_X6_pactLine_49 (Z : Nat → Nat) (M : gMem)  : Option (Int32 × gMem) :=
  some ((0 : Int32), M)
noncomputable def b_X6_pactLine_21 (Z : Nat → Nat) (M : gMem)  : Option (Int32 × gMem) :=
  some ((0 : Int32), M)
noncomputable def b_X6_pactLine_0 (Z : Nat → Nat) (M : gMem) (x0 : Nat) : Option (Int32 × gMem) :=
  ck (mT M x0 = 6) <| bd (f_X6_take M x0 ((some (Z 10)))) fun r43 M43 => (if r43 = 0 then b_X6_pactLine_21 Z M43  else ck (mT M43 x0 = 6) <| bd (f_X6_takeNew Z M43 x0 ((mR M43 x0 5))) fun r46 M46 => (if r46 = 0 then b_X6_pactLine_21 Z M46  else ck (mT M46 x0 = 6) <| dr ((mR M46 x0 2)) fun a49 => ck (mT M46 a49 = 7) <| bd (f_X7_nextPact M46 a49) fun r48 M48 => ck (mT M48 x0 = 6) <| bd (f_X6_take M48 x0 ((some (Z 11)))) fun r51 M51 => (if r51 = 0 then b_X6_pactLine_49 Z M51  else ck (mT M51 x0 = 6) <| bd (f_X6_takeMember Z M51 x0 r48) fun r53 M53 => (if r53 = 0 then b_X6_pactLine_49 Z M53  else lp_X6_pactLine_53 Z M53 x0 r48 ((0 : Int32))))))
noncomputable def f_X6_pactLine (Z : Nat → Nat) (M : gMem) (x0 : Nat) : Option (Int32 × gMem) :=
  b_X6_pactLine_0 Z M x0
set_option maxHeartbeats 4000000 in
set_option maxRecDepth 100000 in
theorem t_X6_pactLine_161 (X : gX p s m args meth c D cy B (gSt Z B H0) RX6 cX6_pactLine wsX6_pactLine 3) (hr : meth.sig.returnType = (some .boolean)) {Q : State → Prop} : ∀ (M : gMem)  (z : Int32 × gMem), b_X6_pactLine_161 Z M  = some z → (fun (r : Int32 × gMem) => Q = gMQ below D cy B H0 args s 0 0 (some (vI r.1)) r.2) z → gGo p l e rX6_pactLine s m args below meth c D cy B H0 3 0 0 Q 161 [] [] M := sorry

set_option maxHeartbeats 4000000 in
set_option maxRecDepth 100000 in
theorem t_X6_pactLine_119 (X : gX p s m args meth c D cy B (gSt Z B H0) RX6 cX6_pactLine wsX6_pactLine 3) (hr : meth.sig.returnType = (some .boolean)) {Q : State → Prop} : ∀ (M : gMem)  (z : Int32 × gMem), b_X6_pactLine_119 Z M  = some z → (fun (r : Int32 × gMem) => Q = gMQ below D cy B H0 args s 0 0 (some (vI r.1)) r.2) z → gGo p l e rX6_pactLine s m args below meth c D cy B H0 3 0 0 Q 119 [] [] M := sorry

set_option maxHeartbeats 4000000 in
set_option maxRecDepth 100000 in
theorem t_X6_pactLine_86 (X : gX p s m args meth c D cy B (gSt Z B H0) RX6 cX6_pactLine wsX6_pactLine 3) (hr : meth.sig.returnType = (some .boolean)) {Q : State → Prop} : ∀ (M : gMem) (x0 : Nat) (x1 : Option Nat) (z : Int32 × gMem), b_X6_pactLine_86 Z M x0 x1 = some z → (fun (r : Int32 × gMem) => Q = gMQ below D cy B H0 args s 0 0 (some (vI r.1)) r.2) z → gGo p l e rX6_pactLine s m args below meth c D cy B H0 3 0 0 Q 86 [(0, vR (some x0)), (1, vR x1)] [] M := sorry

set_option maxHeartbeats 4000000 in
set_option maxRecDepth 100000 in
set_option maxHeartbeats 4000000 in
set_option maxRecDepth 100000 in
set_option maxHeartbeats 4000000 in
set_option maxRecDepth 100000 in
theorem t_X6_pactLine_49 (X : gX p s m args meth c D cy B (gSt Z B H0) RX6 cX6_pactLine wsX6_pactLine 3) (hr : meth.sig.returnType = (some .boolean)) {Q : State → Prop} : ∀ (M : gMem)  (z : Int32 × gMem), b_X6_pactLine_49 Z M  = some z → (fun (r : Int32 × gMem) => Q = gMQ below D cy B H0 args s 0 0 (some (vI r.1)) r.2) z → gGo p l e rX6_pactLine s m args below meth c D cy B H0 3 0 0 Q 49 [] [] M := sorry

set_option maxHeartbeats 4000000 in
set_option maxRecDepth 100000 in
theorem t_X6_pactLine_21 (X : gX p s m args meth c D cy B (gSt Z B H0) RX6 cX6_pactLine wsX6_pactLine 3) (hr : meth.sig.returnType = (some .boolean)) {Q : State → Prop} : ∀ (M : gMem)  (z : Int32 × gMem), b_X6_pactLine_21 Z M  = some z → (fun (r : Int32 × gMem) => Q = gMQ below D cy B H0 args s 0 0 (some (vI r.1)) r.2) z → gGo p l e rX6_pactLine s m args below meth c D cy B H0 3 0 0 Q 21 [] [] M := sorry

set_option maxHeartbeats 4000000 in
set_option maxRecDepth 100000 in
theorem t_X6_pactLine_0 (X : gX p s m args meth c D cy B (gSt Z B H0) RX6 cX6_pactLine wsX6_pactLine 3) (hr : meth.sig.returnType = (some .boolean)) {Q : State → Prop} : ∀ (M : gMem) (x0 : Nat) (z : Int32 × gMem), b_X6_pactLine_0 Z M x0 = some z → (fun (r : Int32 × gMem) => Q = gMQ below D cy B H0 args s 0 0 (some (vI r.1)) r.2) z → gGo p l e rX6_pactLine s m args below meth c D cy B H0 3 0 0 Q 0 [(0, vR (some x0))] [] M := sorry

set_option maxHeartbeats 4000000 in
set_option maxRecDepth 100000 in
theorem m_X6_pactLine (l : Launch) {D : va_G} {cy : Nat → ClassId} {B : Nat} {H0 : Heap} {Z : Nat → Nat} {M M1 : gMem} {x0 : Nat} {r : Int32} (hf : f_X6_pactLine Z M x0 = some (r, M1)) : Met l yX6_pactLine wsX6_pactLine rX6_pactLine (va_Pc (Value.ref x0 :: List.map gv []) (gPre D cy B H0 (gSt Z B H0) M)) (gQ D cy B H0 (some (vI r)) M1) 0 0 (gA B) := sorry

/-! ## TideLots$Reader.read()I -/
set_option maxRecDepth 20000 in
set_option maxRecDepth 20000 in
theorem gX6_read_X6_take : GoodIn wsX6_read (wsV RX6 79 RX6 yX6_take wsX6_take) := sorry

set_option maxRecDepth 20000 in
set_option maxRecDepth 20000 in
theorem gX6_read_X6_sign : GoodIn wsX6_read (wsV RX6 43 RX6 yX6_sign wsX6_sign) := sorry

set_option maxRecDepth 20000 in
set_option maxRecDepth 20000 in
theorem gX6_read_Jx29ce0_ordinal_8abf5_u59X8 : GoodIn wsX6_read (va_wsU RX6 59 RX8 "java/lang/Enum" ⟨"TideLots$Sign", "ordinal", "()I"⟩ yJx29ce0_ordinal_8abf5 wsJx29ce0_ordinal_8abf5) := sorry

set_option maxRecDepth 20000 in
set_option maxRecDepth 20000 in
theorem gX6_read_X6_groundLine : GoodIn wsX6_read (wsV RX6 63 RX6 yX6_groundLine wsX6_groundLine) := sorry

set_option maxRecDepth 20000 in
set_option maxRecDepth 20000 in
theorem gX6_read_X6_fisherLine : GoodIn wsX6_read (wsV RX6 67 RX6 yX6_fisherLine wsX6_fisherLine) := sorry

set_option maxRecDepth 20000 in
set_option maxRecDepth 20000 in
theorem gX6_read_X6_goLine : GoodIn wsX6_read (wsV RX6 70 RX6 yX6_goLine wsX6_goLine) := sorry

set_option maxRecDepth 20000 in
set_option maxRecDepth 20000 in
theorem gX6_read_X6_pactLine : GoodIn wsX6_read (wsV RX6 73 RX6 yX6_pactLine wsX6_pactLine) := sorry

set_option maxRecDepth 20000 in
set_option maxRecDepth 20000 in
theorem gX6_read_X7_forget : GoodIn wsX6_read (wsV RX6 38 RX7 yX7_forget wsX7_forget) := sorry

theorem i_X6_read_X6 : ∀ w ∈ u_ws RX6 TX6 9, w ∈ wsX6_read := sorry

theorem i_X6_read_X10 : ∀ w ∈ u_ws RX10 TX10 6, w ∈ wsX6_read := sorry

abbrev rX6_read : Room := { frames := 68, cells := 0, slots := 0, locals := 2649 }
noncomputable def b_X6_read_157 (Z : Nat → Nat) (M : gMem) (x0 : Nat) : Option (Int32 × gMem) :=
  ck (mT M x0 = 6) <| some ((mI M x0 7), M)
noncomputable def b_X6_read_132 (Z : Nat → Nat) (M : gMem) (x0 : Nat) (x1 : Int32) : Option (Int32 × gMem) :=
  (if x1 = 0 then ck (mT M x0 = 6) <| lw (wI M x0 7 ((1 : Int32))) fun M3 => dr ((mR M3 x0 1)) fun a5 => ck (mT M3 a5 = 9) <| dr ((mR M3 a5 3)) fun a7 => ck (mT M3 a7 = 20) <| ck (inb (mI M3 x0 6) (mL M3 a7)) <| lw (wI M3 x0 0 ((mI M3 a7 ((mI M3 x0 6)).toNatClampNeg))) fun M10 => b_X6_read_157 Z M10 x0 else b_X6_read_157 Z M x0)
noncomputable def b_X6_read_125 (Z : Nat → Nat) (M : gMem) (x0 : Nat) (x2 : Int32) (s0 : Int32) : Option ((gMem × Int32 × Int32) ⊕ (Int32 × gMem)) :=
  some (.inl (M, s0, (x2 + (1 : Int32))))
noncomputable def b_X6_read_124 (Z : Nat → Nat) (M : gMem) (x0 : Nat) (x2 : Int32) : Option ((gMem × Int32 × Int32) ⊕ (Int32 × gMem)) :=
  b_X6_read_125 Z M x0 x2 ((0 : Int32))
noncomputable def b_X6_read_106 (Z : Nat → Nat) (M : gMem) (x0 : Nat) (x1 : Int32) (x2 : Int32) : Option ((gMem × Int32 × Int32) ⊕ (Int32 × gMem)) :=
  (if x1 = 0 then b_X6_read_124 Z M x0 x2 else ck (mT M x0 = 6) <| bd (f_X6_take M x0 ((some (Z 29)))) fun r14 M14 => (if r14 = 0 then b_X6_read_124 Z M14 x0 x2 else b_X6_read_125 Z M14 x0 x2 ((1 : Int32))))
noncomputable def bb_X6_read_11 (Z : Nat → Nat) (M : gMem) (x0 : Nat) (x1 : Int32) (x2 : Int32) : Option ((gMem × Int32 × Int32) ⊕ (Int32 × gMem)) :=
  (if (400 : Int32) ≤ x2 then oI (b_X6_read_132 Z M x0 x1) else (if x1 = 0 then oI (b_X6_read_132 Z M x0 x1) else ck (mT M x0 = 6) <| bd (f_X6_sign M x0) fun r18 M18 => (if r18 = (some (Z 42)) then oI (b_X6_read_132 Z M18 x0 x1) else ck (mT M18 x0 = 6) <| bd (f_X6_sign M18 x0) fun r21 M21 => dr (ordZ Z r21) fun o23 => (if (gSw o23) = (1 : Int32) then ck (mT M21 x0 = 6) <| bd (f_X6_groundLine Z M21 x0) fun r25 M25 => b_X6_read_106 Z M25 x0 r25 x2 else (if (gSw o23) = (2 : Int32) then ck (mT M21 x0 = 6) <| bd (f_X6_fisherLine Z M21 x0) fun r28 M28 => b_X6_read_106 Z M28 x0 r28 x2 else (if (gSw o23) = (3 : Int32) then ck (mT M21 x0 = 6) <| bd (f_X6_goLine Z M21 x0) fun r31 M31 => b_X6_read_106 Z M31 x0 r31 x2 else (if (gSw o23) = (4 : Int32) then ck (mT M21 x0 = 6) <| bd (f_X6_pactLine Z M21 x0) fun r34 M34 => b_X6_read_106 Z M34 x0 r34 x2 else b_X6_read_106 Z M21 x0 ((0 : Int32)) x2)))))))
noncomputable def lp_X6_read_11 (Z : Nat → Nat) (M : gMem) (x0 : Nat) (x1 : Int32) (x2 : Int32) : Option (Int32 × gMem) :=
  lp (fun (q : gMem × Int32 × Int32) => bb_X6_read_11 Z q.1 x0 q.2.1 q.2.2) (M, x1, x2)
noncomputable def b_X6_read_0 (Z : Nat → Nat) (M : gMem) (x0 : Nat) : Option (Int32 × gMem) :=
  ck (mT M x0 = 6) <| dr ((mR M x0 2)) fun a38 => ck (mT M a38 = 7) <| bd (f_X7_forget M a38) fun _ M37 => lp_X6_read_11 Z M37 x0 ((1 : Int32)) ((0 : Int32))
noncomputable def f_X6_read (Z : Nat → Nat) (M : gMem) (x0 : Nat) : Option (Int32 × gMem) :=
  b_X6_read_0 Z M x0
set_option maxHeartbeats 4000000 in
set_option maxRecDepth 100000 in
theorem t_X6_read_157 (X : gX p s m args meth c D cy B (gSt Z B H0) RX6 cX6_read wsX6_read 3) (hr : meth.sig.returnType = (some .int)) {Q : State → Prop} : ∀ (M : gMem) (x0 : Nat) (z : Int32 × gMem), b_X6_read_157 Z M x0 = some z → (fun (r : Int32 × gMem) => Q = gMQ below D cy B H0 args s 0 0 (some (vI r.1)) r.2) z → gGo p l e rX6_read s m args below meth c D cy B H0 3 0 0 Q 157 [(0, vR (some x0))] [] M := sorry

set_option maxHeartbeats 4000000 in
set_option maxRecDepth 100000 in
theorem t_X6_read_132 (X : gX p s m args meth c D cy B (gSt Z B H0) RX6 cX6_read wsX6_read 3) (hr : meth.sig.returnType = (some .int)) {Q : State → Prop} : ∀ (M : gMem) (x0 : Nat) (x1 : Int32) (z : Int32 × gMem), b_X6_read_132 Z M x0 x1 = some z → (fun (r : Int32 × gMem) => Q = gMQ below D cy B H0 args s 0 0 (some (vI r.1)) r.2) z → gGo p l e rX6_read s m args below meth c D cy B H0 3 0 0 Q 132 [(0, vR (some x0)), (1, vI x1)] [] M := sorry

set_option maxHeartbeats 4000000 in
set_option maxRecDepth 100000 in
theorem t_X6_read_125 (X : gX p s m args meth c D cy B (gSt Z B H0) RX6 cX6_read wsX6_read 3) (hr : meth.sig.returnType = (some .int)) {Q : State → Prop} : ∀ (M : gMem) (x0 : Nat) (x2 : Int32) (s0 : Int32) (z : (gMem × Int32 × Int32) ⊕ (Int32 × gMem)), b_X6_read_125 Z M x0 x2 s0 = some z → (Sum.elim (fun (q : gMem × Int32 × Int32) => gGo p l e rX6_read s m args below meth c D cy B H0 3 0 0 Q 11 [(0, vR (some x0)), (1, vI q.2.1), (2, vI q.2.2)] [] q.1) (fun (r : Int32 × gMem) => Q = gMQ below D cy B H0 args s 0 0 (some (vI r.1)) r.2)) z → gGo p l e rX6_read s m args below meth c D cy B H0 3 0 0 Q 125 [(0, vR (some x0)), (2, vI x2)] [vI s0] M := sorry

set_option maxHeartbeats 4000000 in
set_option maxRecDepth 100000 in
theorem t_X6_read_124 (X : gX p s m args meth c D cy B (gSt Z B H0) RX6 cX6_read wsX6_read 3) (hr : meth.sig.returnType = (some .int)) {Q : State → Prop} : ∀ (M : gMem) (x0 : Nat) (x2 : Int32) (z : (gMem × Int32 × Int32) ⊕ (Int32 × gMem)), b_X6_read_124 Z M x0 x2 = some z → (Sum.elim (fun (q : gMem × Int32 × Int32) => gGo p l e rX6_read s m args below meth c D cy B H0 3 0 0 Q 11 [(0, vR (some x0)), (1, vI q.2.1), (2, vI q.2.2)] [] q.1) (fun (r : Int32 × gMem) => Q = gMQ below D cy B H0 args s 0 0 (some (vI r.1)) r.2)) z → gGo p l e rX6_read s m args below meth c D cy B H0 3 0 0 Q 124 [(0, vR (some x0)), (2, vI x2)] [] M := sorry

set_option maxHeartbeats 4000000 in
set_option maxRecDepth 100000 in
theorem t_X6_read_106 (X : gX p s m args meth c D cy B (gSt Z B H0) RX6 cX6_read wsX6_read 3) (hr : meth.sig.returnType = (some .int)) {Q : State → Prop} : ∀ (M : gMem) (x0 : Nat) (x1 : Int32) (x2 : Int32) (z : (gMem × Int32 × Int32) ⊕ (Int32 × gMem)), b_X6_read_106 Z M x0 x1 x2 = some z → (Sum.elim (fun (q : gMem × Int32 × Int32) => gGo p l e rX6_read s m args below meth c D cy B H0 3 0 0 Q 11 [(0, vR (some x0)), (1, vI q.2.1), (2, vI q.2.2)] [] q.1) (fun (r : Int32 × gMem) => Q = gMQ below D cy B H0 args s 0 0 (some (vI r.1)) r.2)) z → gGo p l e rX6_read s m args below meth c D cy B H0 3 0 0 Q 106 [(0, vR (some x0)), (1, vI x1), (2, vI x2)] [] M := sorry

set_option maxHeartbeats 4000000 in
set_option maxRecDepth 100000 in
set_option maxHeartbeats 4000000 in
set_option maxRecDepth 100000 in
set_option maxHeartbeats 4000000 in
set_option maxRecDepth 100000 in
theorem t_X6_read_0 (X : gX p s m args meth c D cy B (gSt Z B H0) RX6 cX6_read wsX6_read 3) (hr : meth.sig.returnType = (some .int)) {Q : State → Prop} : ∀ (M : gMem) (x0 : Nat) (z : Int32 × gMem), b_X6_read_0 Z M x0 = some z → (fun (r : Int32 × gMem) => Q = gMQ below D cy B H0 args s 0 0 (some (vI r.1)) r.2) z → gGo p l e rX6_read s m args below meth c D cy B H0 3 0 0 Q 0 [(0, vR (some x0))] [] M := sorry

set_option maxHeartbeats 4000000 in
set_option maxRecDepth 100000 in
theorem m_X6_read (l : Launch) {D : va_G} {cy : Nat → ClassId} {B : Nat} {H0 : Heap} {Z : Nat → Nat} {M M1 : gMem} {x0 : Nat} {r : Int32} (hf : f_X6_read Z M x0 = some (r, M1)) : Met l yX6_read wsX6_read rX6_read (va_Pc (Value.ref x0 :: List.map gv []) (gPre D cy B H0 (gSt Z B H0) M)) (gQ D cy B H0 (some (vI r)) M1) 0 0 (gA B) := sorry

end
