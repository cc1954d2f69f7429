section
variable {p : Program} {l : Launch} {e : Env} {s : State} {m : MethodId} {args : Array Value} {below : List Frame} {meth : Method} {c : Code} {D : va_G} {cy : Nat → ClassId} {B : Nat} {H0 : Heap} {Z : Nat → Nat}
/-! ## TideLots$Tape.append(I)V -/
theorem i_X10_append_X10 : ∀ w ∈ u_ws RX10 TX10 6, w ∈ wsX10_append := sorry

abbrev rX10_append : Room := { frames := 0, cells := 0, slots := 0, locals := 0 }
noncomputable def b_X10_append_42 (M : gMem) (x0 : Nat) (x1 : Int32) (x2 : Int32) : Option ((gMem × Int32) ⊕ (Unit × gMem)) :=
  some (.inl (M, (x2 + (-8 : Int32))))
noncomputable def bb_X10_append_3 (M : gMem) (x0 : Nat) (x1 : Int32) (x2 : Int32) : Option ((gMem × Int32) ⊕ (Unit × gMem)) :=
  (if x2 < 0 then oI (some ((), M)) else ck (mT M x0 = 9) <| dr ((mR M x0 1)) fun a3 => ck (mT M a3 = 22) <| (if (Int32.ofNat (mL M a3)) ≤ (mI M x0 0) then b_X10_append_42 M x0 x1 x2 else ck (inb (mI M x0 0) (mL M a3)) <| lw (wI M a3 ((mI M x0 0)).toNatClampNeg (vp_nar .byte ((i2bV ((ushr x1 x2)))))) fun M6 => lw (wI M6 x0 0 (((mI M6 x0 0) + (1 : Int32)))) fun M9 => b_X10_append_42 M9 x0 x1 x2))
noncomputable def lp_X10_append_3 (M : gMem) (x0 : Nat) (x1 : Int32) (x2 : Int32) : Option (Unit × gMem) :=
  lp (fun (q : gMem × Int32) => bb_X10_append_3 q.1 x0 x1 q.2) (M, x2)
noncomputable def b_X10_append_0 (M : gMem) (x0 : Nat) (x1 : Int32) : Option (Unit × gMem) :=
  lp_X10_append_3 M x0 x1 ((24 : Int32))
noncomputable def f_X10_append (M : gMem) (x0 : Nat) (x1 : Int32) : Option (Unit × gMem) :=
  b_X10_append_0 M x0 x1
set_option maxHeartbeats 4000000 in
set_option maxRecDepth 100000 in
theorem t_X10_append_42 (X : gX p s m args meth c D cy B (gSt Z B H0) RX10 cX10_append wsX10_append 3) (hr : meth.sig.returnType = none) {Q : State → Prop} : ∀ (M : gMem) (x0 : Nat) (x1 : Int32) (x2 : Int32) (z : (gMem × Int32) ⊕ (Unit × gMem)), b_X10_append_42 M x0 x1 x2 = some z → (Sum.elim (fun (q : gMem × Int32) => gGo p l e rX10_append s m args below meth c D cy B H0 3 0 0 Q 3 [(0, vR (some x0)), (1, vI x1), (2, vI q.2)] [] q.1) (fun (r : Unit × gMem) => Q = gMQ below D cy B H0 args s 0 0 none r.2)) z → gGo p l e rX10_append s m args below meth c D cy B H0 3 0 0 Q 42 [(0, vR (some x0)), (1, vI x1), (2, vI x2)] [] M := sorry

set_option maxHeartbeats 4000000 in
set_option maxRecDepth 100000 in
set_option maxHeartbeats 4000000 in
set_option maxRecDepth 100000 in
set_option maxHeartbeats 4000000 in
set_option maxRecDepth 100000 in
theorem t_X10_append_0 (X : gX p s m args meth c D cy B (gSt Z B H0) RX10 cX10_append wsX10_append 3) (hr : meth.sig.returnType = none) {Q : State → Prop} : ∀ (M : gMem) (x0 : Nat) (x1 : Int32) (z : Unit × gMem), b_X10_append_0 M x0 x1 = some z → (fun (r : Unit × gMem) => Q = gMQ below D cy B H0 args s 0 0 none r.2) z → gGo p l e rX10_append s m args below meth c D cy B H0 3 0 0 Q 0 [(0, vR (some x0)), (1, vI x1)] [] M := sorry

set_option maxHeartbeats 4000000 in
set_option maxRecDepth 100000 in
theorem m_X10_append (l : Launch) {D : va_G} {cy : Nat → ClassId} {B : Nat} {H0 : Heap} {Z : Nat → Nat} {M M1 : gMem} {x0 : Nat} {x1 : Int32} {r : Unit} (hf : f_X10_append M x0 x1 = some (r, M1)) : Met l yX10_append wsX10_append rX10_append (va_Pc (Value.ref x0 :: List.map gv [vI x1]) (gPre D cy B H0 (gSt Z B H0) M)) (gQ D cy B H0 none M1) 0 0 (gA B) := sorry

/-! ## TideLots$Tape.at(I)I -/
theorem i_X10_at_X10 : ∀ w ∈ u_ws RX10 TX10 6, w ∈ wsX10_at := sorry

abbrev rX10_at : Room := { frames := 0, cells := 0, slots := 0, locals := 0 }
noncomputable def b_X10_at_22 (M : gMem) (s0 : Int32) : Option (Int32 × gMem) :=
  some (s0, M)
noncomputable def b_X10_at_21 (M : gMem)  : Option (Int32 × gMem) :=
  b_X10_at_22 M ((0 : Int32))
noncomputable def b_X10_at_0 (M : gMem) (x0 : Nat) (x1 : Int32) : Option (Int32 × gMem) :=
  (if x1 < 0 then b_X10_at_21 M  else ck (mT M x0 = 9) <| (if (mI M x0 0) ≤ x1 then b_X10_at_21 M  else dr ((mR M x0 1)) fun a2 => ck (mT M a2 = 22) <| ck (inb x1 (mL M a2)) <| b_X10_at_22 M ((mI M a2 x1.toNatClampNeg))))
noncomputable def f_X10_at (M : gMem) (x0 : Nat) (x1 : Int32) : Option (Int32 × gMem) :=
  b_X10_at_0 M x0 x1
set_option maxHeartbeats 4000000 in
set_option maxRecDepth 100000 in
theorem t_X10_at_22 (X : gX p s m args meth c D cy B (gSt Z B H0) RX10 cX10_at wsX10_at 2) (hr : meth.sig.returnType = (some .int)) {Q : State → Prop} : ∀ (M : gMem) (s0 : Int32) (z : Int32 × gMem), b_X10_at_22 M s0 = some z → (fun (r : Int32 × gMem) => Q = gMQ below D cy B H0 args s 0 0 (some (vI r.1)) r.2) z → gGo p l e rX10_at s m args below meth c D cy B H0 2 0 0 Q 22 [] [vI s0] M := sorry

set_option maxHeartbeats 4000000 in
set_option maxRecDepth 100000 in
theorem t_X10_at_21 (X : gX p s m args meth c D cy B (gSt Z B H0) RX10 cX10_at wsX10_at 2) (hr : meth.sig.returnType = (some .int)) {Q : State → Prop} : ∀ (M : gMem)  (z : Int32 × gMem), b_X10_at_21 M  = some z → (fun (r : Int32 × gMem) => Q = gMQ below D cy B H0 args s 0 0 (some (vI r.1)) r.2) z → gGo p l e rX10_at s m args below meth c D cy B H0 2 0 0 Q 21 [] [] M := sorry

set_option maxHeartbeats 4000000 in
set_option maxRecDepth 100000 in
theorem t_X10_at_0 (X : gX p s m args meth c D cy B (gSt Z B H0) RX10 cX10_at wsX10_at 2) (hr : meth.sig.returnType = (some .int)) {Q : State → Prop} : ∀ (M : gMem) (x0 : Nat) (x1 : Int32) (z : Int32 × gMem), b_X10_at_0 M x0 x1 = some z → (fun (r : Int32 × gMem) => Q = gMQ below D cy B H0 args s 0 0 (some (vI r.1)) r.2) z → gGo p l e rX10_at s m args below meth c D cy B H0 2 0 0 Q 0 [(0, vR (some x0)), (1, vI x1)] [] M := sorry

set_option maxHeartbeats 4000000 in
set_option maxRecDepth 100000 in
theorem m_X10_at (l : Launch) {D : va_G} {cy : Nat → ClassId} {B : Nat} {H0 : Heap} {Z : Nat → Nat} {M M1 : gMem} {x0 : Nat} {x1 : Int32} {r : Int32} (hf : f_X10_at M x0 x1 = some (r, M1)) : Met l yX10_at wsX10_at rX10_at (va_Pc (Value.ref x0 :: List.map gv [vI x1]) (gPre D cy B H0 (gSt Z B H0) M)) (gQ D cy B H0 (some (vI r)) M1) 0 0 (gA B) := sorry

/-! ## TideLots$Tape.isLetter(I)Z -/
set_option maxRecDepth 20000 in
set_option maxRecDepth 20000 in
theorem gX10_isLetter_X10_at : GoodIn wsX10_isLetter (wsV RX10 50 RX10 yX10_at wsX10_at) := sorry

abbrev rX10_isLetter : Room := { frames := 1, cells := 0, slots := 0, locals := 21 }
noncomputable def b_X10_isLetter_25 (M : gMem) (s0 : Int32) : Option (Int32 × gMem) :=
  ck (s0 = 0 ∨ s0 = 1) <| some (s0, M)
noncomputable def b_X10_isLetter_24 (M : gMem)  : Option (Int32 × gMem) :=
  b_X10_isLetter_25 M ((0 : Int32))
noncomputable def b_X10_isLetter_0 (M : gMem) (x0 : Nat) (x1 : Int32) : Option (Int32 × gMem) :=
  ck (mT M x0 = 9) <| bd (f_X10_at M x0 x1) fun r2 M2 => (if r2 < (97 : Int32) then b_X10_isLetter_24 M2  else ck (mT M2 x0 = 9) <| bd (f_X10_at M2 x0 x1) fun r4 M4 => (if (122 : Int32) < r4 then b_X10_isLetter_24 M4  else b_X10_isLetter_25 M4 ((1 : Int32))))
noncomputable def f_X10_isLetter (M : gMem) (x0 : Nat) (x1 : Int32) : Option (Int32 × gMem) :=
  b_X10_isLetter_0 M x0 x1
set_option maxHeartbeats 4000000 in
set_option maxRecDepth 100000 in
theorem t_X10_isLetter_25 (X : gX p s m args meth c D cy B (gSt Z B H0) RX10 cX10_isLetter wsX10_isLetter 2) (hr : meth.sig.returnType = (some .boolean)) {Q : State → Prop} : ∀ (M : gMem) (s0 : Int32) (z : Int32 × gMem), b_X10_isLetter_25 M s0 = some z → (fun (r : Int32 × gMem) => Q = gMQ below D cy B H0 args s 0 0 (some (vI r.1)) r.2) z → gGo p l e rX10_isLetter s m args below meth c D cy B H0 2 0 0 Q 25 [] [vI s0] M := sorry

set_option maxHeartbeats 4000000 in
set_option maxRecDepth 100000 in
theorem t_X10_isLetter_24 (X : gX p s m args meth c D cy B (gSt Z B H0) RX10 cX10_isLetter wsX10_isLetter 2) (hr : meth.sig.returnType = (some .boolean)) {Q : State → Prop} : ∀ (M : gMem)  (z : Int32 × gMem), b_X10_isLetter_24 M  = some z → (fun (r : Int32 × gMem) => Q = gMQ below D cy B H0 args s 0 0 (some (vI r.1)) r.2) z → gGo p l e rX10_isLetter s m args below meth c D cy B H0 2 0 0 Q 24 [] [] M := sorry

set_option maxHeartbeats 4000000 in
set_option maxRecDepth 100000 in
theorem t_X10_isLetter_0 (X : gX p s m args meth c D cy B (gSt Z B H0) RX10 cX10_isLetter wsX10_isLetter 2) (hr : meth.sig.returnType = (some .boolean)) {Q : State → Prop} : ∀ (M : gMem) (x0 : Nat) (x1 : Int32) (z : Int32 × gMem), b_X10_isLetter_0 M x0 x1 = some z → (fun (r : Int32 × gMem) => Q = gMQ below D cy B H0 args s 0 0 (some (vI r.1)) r.2) z → gGo p l e rX10_isLetter s m args below meth c D cy B H0 2 0 0 Q 0 [(0, vR (some x0)), (1, vI x1)] [] M := sorry

set_option maxHeartbeats 4000000 in
set_option maxRecDepth 100000 in
theorem m_X10_isLetter (l : Launch) {D : va_G} {cy : Nat → ClassId} {B : Nat} {H0 : Heap} {Z : Nat → Nat} {M M1 : gMem} {x0 : Nat} {x1 : Int32} {r : Int32} (hf : f_X10_isLetter M x0 x1 = some (r, M1)) : Met l yX10_isLetter wsX10_isLetter rX10_isLetter (va_Pc (Value.ref x0 :: List.map gv [vI x1]) (gPre D cy B H0 (gSt Z B H0) M)) (gQ D cy B H0 (some (vI r)) M1) 0 0 (gA B) := sorry

/-! ## TideLots$Tape.isDigit(I)Z -/
set_option maxRecDepth 20000 in
set_option maxRecDepth 20000 in
theorem gX10_isDigit_X10_at : GoodIn wsX10_isDigit (wsV RX10 50 RX10 yX10_at wsX10_at) := sorry

abbrev rX10_isDigit : Room := { frames := 1, cells := 0, slots := 0, locals := 21 }
noncomputable def b_X10_isDigit_25 (M : gMem) (s0 : Int32) : Option (Int32 × gMem) :=
  ck (s0 = 0 ∨ s0 = 1) <| some (s0, M)
noncomputable def b_X10_isDigit_24 (M : gMem)  : Option (Int32 × gMem) :=
  b_X10_isDigit_25 M ((0 : Int32))
noncomputable def b_X10_isDigit_0 (M : gMem) (x0 : Nat) (x1 : Int32) : Option (Int32 × gMem) :=
  ck (mT M x0 = 9) <| bd (f_X10_at M x0 x1) fun r2 M2 => (if r2 < (48 : Int32) then b_X10_isDigit_24 M2  else ck (mT M2 x0 = 9) <| bd (f_X10_at M2 x0 x1) fun r4 M4 => (if (57 : Int32) < r4 then b_X10_isDigit_24 M4  else b_X10_isDigit_25 M4 ((1 : Int32))))
noncomputable def f_X10_isDigit (M : gMem) (x0 : Nat) (x1 : Int32) : Option (Int32 × gMem) :=
  b_X10_isDigit_0 M x0 x1
set_option maxHeartbeats 4000000 in
set_option maxRecDepth 100000 in
theorem t_X10_isDigit_25 (X : gX p s m args meth c D cy B (gSt Z B H0) RX10 cX10_isDigit wsX10_isDigit 2) (hr : meth.sig.returnType = (some .boolean)) {Q : State → Prop} : ∀ (M : gMem) (s0 : Int32) (z : Int32 × gMem), b_X10_isDigit_25 M s0 = some z → (fun (r : Int32 × gMem) => Q = gMQ below D cy B H0 args s 0 0 (some (vI r.1)) r.2) z → gGo p l e rX10_isDigit s m args below meth c D cy B H0 2 0 0 Q 25 [] [vI s0] M := sorry

set_option maxHeartbeats 4000000 in
set_option maxRecDepth 100000 in
theorem t_X10_isDigit_24 (X : gX p s m args meth c D cy B (gSt Z B H0) RX10 cX10_isDigit wsX10_isDigit 2) (hr : meth.sig.returnType = (some .boolean)) {Q : State → Prop} : ∀ (M : gMem)  (z : Int32 × gMem), b_X10_isDigit_24 M  = some z → (fun (r : Int32 × gMem) => Q = gMQ below D cy B H0 args s 0 0 (some (vI r.1)) r.2) z → gGo p l e rX10_isDigit s m args below meth c D cy B H0 2 0 0 Q 24 [] [] M := sorry

set_option maxHeartbeats 4000000 in
set_option maxRecDepth 100000 in
theorem t_X10_isDigit_0 (X : gX p s m args meth c D cy B (gSt Z B H0) RX10 cX10_isDigit wsX10_isDigit 2) (hr : meth.sig.returnType = (some .boolean)) {Q : State → Prop} : ∀ (M : gMem) (x0 : Nat) (x1 : Int32) (z : Int32 × gMem), b_X10_isDigit_0 M x0 x1 = some z → (fun (r : Int32 × gMem) => Q = gMQ below D cy B H0 args s 0 0 (some (vI r.1)) r.2) z → gGo p l e rX10_isDigit s m args below meth c D cy B H0 2 0 0 Q 0 [(0, vR (some x0)), (1, vI x1)] [] M := sorry

set_option maxHeartbeats 4000000 in
set_option maxRecDepth 100000 in
theorem m_X10_isDigit (l : Launch) {D : va_G} {cy : Nat → ClassId} {B : Nat} {H0 : Heap} {Z : Nat → Nat} {M M1 : gMem} {x0 : Nat} {x1 : Int32} {r : Int32} (hf : f_X10_isDigit M x0 x1 = some (r, M1)) : Met l yX10_isDigit wsX10_isDigit rX10_isDigit (va_Pc (Value.ref x0 :: List.map gv [vI x1]) (gPre D cy B H0 (gSt Z B H0) M)) (gQ D cy B H0 (some (vI r)) M1) 0 0 (gA B) := sorry

/-! ## TideLots$Tape.skipBlanks()V -/
set_option maxRecDepth 20000 in
set_option maxRecDepth 20000 in
theorem gX10_skipBlanks_X10_at : GoodIn wsX10_skipBlanks (wsV RX10 50 RX10 yX10_at wsX10_at) := sorry

theorem i_X10_skipBlanks_X10 : ∀ w ∈ u_ws RX10 TX10 6, w ∈ wsX10_skipBlanks := sorry

abbrev rX10_skipBlanks : Room := { frames := 1, cells := 0, slots := 0, locals := 21 }
noncomputable def b_X10_skipBlanks_50 (M : gMem)  : Option (Unit × gMem) :=
  some ((), M)
noncomputable def b_X10_skipBlanks_37 (M : gMem) (x0 : Nat) : Option ((gMem) ⊕ (Unit × gMem)) :=
  ck (mT M x0 = 9) <| lw (wI M x0 5 (((mI M x0 5) + (1 : Int32)))) fun M2 => some (.inl M2)
noncomputable def bb_X10_skipBlanks_0 (M : gMem) (x0 : Nat) : Option ((gMem) ⊕ (Unit × gMem)) :=
  ck (mT M x0 = 9) <| (if (mI M x0 0) ≤ (mI M x0 5) then oI (b_X10_skipBlanks_50 M ) else bd (f_X10_at M x0 ((mI M x0 5))) fun r6 M6 => (if r6 = (32 : Int32) then b_X10_skipBlanks_37 M6 x0 else ck (mT M6 x0 = 9) <| bd (f_X10_at M6 x0 ((mI M6 x0 5))) fun r8 M8 => (if r8 = (10 : Int32) then b_X10_skipBlanks_37 M8 x0 else oI (b_X10_skipBlanks_50 M8 ))))
noncomputable def lp_X10_skipBlanks_0 (M : gMem) (x0 : Nat) : Option (Unit × gMem) :=
  lp (fun (q : gMem) => bb_X10_skipBlanks_0 q x0) M
noncomputable def f_X10_skipBlanks (M : gMem) (x0 : Nat) : Option (Unit × gMem) :=
  lp_X10_skipBlanks_0 M x0
set_option maxHeartbeats 4000000 in
set_option maxRecDepth 100000 in
theorem t_X10_skipBlanks_50 (X : gX p s m args meth c D cy B (gSt Z B H0) RX10 cX10_skipBlanks wsX10_skipBlanks 1) (hr : meth.sig.returnType = none) {Q : State → Prop} : ∀ (M : gMem)  (z : Unit × gMem), b_X10_skipBlanks_50 M  = some z → (fun (r : Unit × gMem) => Q = gMQ below D cy B H0 args s 0 0 none r.2) z → gGo p l e rX10_skipBlanks s m args below meth c D cy B H0 1 0 0 Q 50 [] [] M := sorry

set_option maxHeartbeats 4000000 in
set_option maxRecDepth 100000 in
theorem t_X10_skipBlanks_37 (X : gX p s m args meth c D cy B (gSt Z B H0) RX10 cX10_skipBlanks wsX10_skipBlanks 1) (hr : meth.sig.returnType = none) {Q : State → Prop} : ∀ (M : gMem) (x0 : Nat) (z : (gMem) ⊕ (Unit × gMem)), b_X10_skipBlanks_37 M x0 = some z → (Sum.elim (fun (q : gMem) => gGo p l e rX10_skipBlanks s m args below meth c D cy B H0 1 0 0 Q 0 [(0, vR (some x0))] [] q) (fun (r : Unit × gMem) => Q = gMQ below D cy B H0 args s 0 0 none r.2)) z → gGo p l e rX10_skipBlanks s m args below meth c D cy B H0 1 0 0 Q 37 [(0, vR (some x0))] [] M := sorry

set_option maxHeartbeats 4000000 in
set_option maxRecDepth 100000 in
set_option maxHeartbeats 4000000 in
set_option maxRecDepth 100000 in
set_option maxHeartbeats 4000000 in
set_option maxRecDepth 100000 in
theorem m_X10_skipBlanks (l : Launch) {D : va_G} {cy : Nat → ClassId} {B : Nat} {H0 : Heap} {Z : Nat → Nat} {M M1 : gMem} {x0 : Nat} {r : Unit} (hf : f_X10_skipBlanks M x0 = some (r, M1)) : Met l yX10_skipBlanks wsX10_skipBlanks rX10_skipBlanks (va_Pc (Value.ref x0 :: List.map gv []) (gPre D cy B H0 (gSt Z B H0) M)) (gQ D cy B H0 none M1) 0 0 (gA B) := sorry

/-! ## TideLots$Tape.reads(Ljava/lang/String;II)Z -/
set_option maxRecDepth 20000 in
set_option maxRecDepth 20000 in
theorem gX10_reads_X10_at : GoodIn wsX10_reads (wsV RX10 50 RX10 yX10_at wsX10_at) := sorry

set_option maxRecDepth 20000 in
set_option maxRecDepth 20000 in
theorem gX10_reads_J0_charAt_5068e : GoodIn wsX10_reads (wsV RX10 101 RJ0 yJ0_charAt_5068e wsJ0_charAt_5068e) := sorry

set_option maxRecDepth 20000 in
set_option maxRecDepth 20000 in
theorem gX10_reads_J0_length_8abf5 : GoodIn wsX10_reads (wsV RX10 96 RJ0 yJ0_length_8abf5 wsJ0_length_8abf5) := sorry

abbrev rX10_reads : Room := { frames := 4, cells := 0, slots := 0, locals := 85 }
noncomputable def bb_X10_reads_13 (Z : Nat → Nat) (M : gMem) (x0 : Nat) (x1 : Nat) (x2 : Int32) (x3 : Int32) (x4 : Int32) : Option ((gMem × Int32) ⊕ (Int32 × gMem)) :=
  (if x3 ≤ x4 then oI (some ((1 : Int32), M)) else ck (mT M x0 = 9) <| bd (f_X10_at M x0 ((x2 + x4))) fun r2 M2 => ck (x1 < 94) <| bd (f_J0_charAt_5068e Z M2 x1 x4) fun r4 M4 => (if r2 = r4 then some (.inl (M4, (x4 + (1 : Int32)))) else oI (some ((0 : Int32), M4))))
noncomputable def lp_X10_reads_13 (Z : Nat → Nat) (M : gMem) (x0 : Nat) (x1 : Nat) (x2 : Int32) (x3 : Int32) (x4 : Int32) : Option (Int32 × gMem) :=
  lp (fun (q : gMem × Int32) => bb_X10_reads_13 Z q.1 x0 x1 x2 x3 q.2) (M, x4)
noncomputable def b_X10_reads_0 (Z : Nat → Nat) (M : gMem) (x0 : Nat) (x1 : Nat) (x2 : Int32) (x3 : Int32) : Option (Int32 × gMem) :=
  ck (x1 < 94) <| bd (f_J0_length_8abf5 Z M x1) fun r7 M7 => (if r7 = x3 then lp_X10_reads_13 Z M7 x0 x1 x2 x3 ((0 : Int32)) else some ((0 : Int32), M7))
noncomputable def f_X10_reads (Z : Nat → Nat) (M : gMem) (x0 : Nat) (x1 : Nat) (x2 : Int32) (x3 : Int32) : Option (Int32 × gMem) :=
  b_X10_reads_0 Z M x0 x1 x2 x3
set_option maxHeartbeats 4000000 in
set_option maxRecDepth 100000 in
set_option maxHeartbeats 4000000 in
set_option maxRecDepth 100000 in
set_option maxHeartbeats 4000000 in
set_option maxRecDepth 100000 in
theorem t_X10_reads_0 (X : gX p s m args meth c D cy B (gSt Z B H0) RX10 cX10_reads wsX10_reads 5) (hr : meth.sig.returnType = (some .boolean)) {Q : State → Prop} : ∀ (M : gMem) (x0 : Nat) (x1 : Nat) (x2 : Int32) (x3 : Int32) (z : Int32 × gMem), b_X10_reads_0 Z M x0 x1 x2 x3 = some z → (fun (r : Int32 × gMem) => Q = gMQ below D cy B H0 args s 0 0 (some (vI r.1)) r.2) z → gGo p l e rX10_reads s m args below meth c D cy B H0 5 0 0 Q 0 [(0, vR (some x0)), (1, vR (some (Z (100 + x1)))), (2, vI x2), (3, vI x3)] [] M := sorry

set_option maxHeartbeats 4000000 in
set_option maxRecDepth 100000 in
theorem m_X10_reads (l : Launch) {D : va_G} {cy : Nat → ClassId} {B : Nat} {H0 : Heap} {Z : Nat → Nat} {M M1 : gMem} {x0 : Nat} {x1 : Nat} {x2 : Int32} {x3 : Int32} {r : Int32} (hf : f_X10_reads Z M x0 x1 x2 x3 = some (r, M1)) : Met l yX10_reads wsX10_reads rX10_reads (va_Pc (Value.ref x0 :: List.map gv [vR (some (Z (100 + x1))), vI x2, vI x3]) (gPre D cy B H0 (gSt Z B H0) M)) (gQ D cy B H0 (some (vI r)) M1) 0 0 (gA B) := sorry

/-! ## TideLots$Tape.signOf(IILTideLots$Sign;)LTideLots$Sign; -/
set_option maxRecDepth 20000 in
set_option maxRecDepth 20000 in
theorem gX10_signOf_X10_reads : GoodIn wsX10_signOf (wsV RX10 92 RX10 yX10_reads wsX10_reads) := sorry

abbrev rX10_signOf : Room := { frames := 5, cells := 0, slots := 0, locals := 109 }
noncomputable def bb_X10_signOf_13 (Z : Nat → Nat) (M : gMem) (x0 : Nat) (x1 : Int32) (x2 : Int32) (x3 : Option Nat) (x5 : Int32) (x6 : Int32) : Option ((gMem × Int32) ⊕ (Option Nat × gMem)) :=
  (if x5 ≤ x6 then oI (some (x3, M)) else ck (inb x6 45) <| dr (ordZ Z ((some (Z (x6.toNatClampNeg))))) fun o3 => ck (mT M x0 = 9) <| bd (f_X10_reads Z M x0 o3 x1 x2) fun r4 M4 => (if r4 = 0 then some (.inl (M4, (x6 + (1 : Int32)))) else oI (some ((some (Z (x6.toNatClampNeg))), M4))))
noncomputable def lp_X10_signOf_13 (Z : Nat → Nat) (M : gMem) (x0 : Nat) (x1 : Int32) (x2 : Int32) (x3 : Option Nat) (x5 : Int32) (x6 : Int32) : Option (Option Nat × gMem) :=
  lp (fun (q : gMem × Int32) => bb_X10_signOf_13 Z q.1 x0 x1 x2 x3 x5 q.2) (M, x6)
noncomputable def b_X10_signOf_0 (Z : Nat → Nat) (M : gMem) (x0 : Nat) (x1 : Int32) (x2 : Int32) (x3 : Option Nat) : Option (Option Nat × gMem) :=
  lp_X10_signOf_13 Z M x0 x1 x2 x3 ((Int32.ofNat 45)) ((0 : Int32))
noncomputable def f_X10_signOf (Z : Nat → Nat) (M : gMem) (x0 : Nat) (x1 : Int32) (x2 : Int32) (x3 : Option Nat) : Option (Option Nat × gMem) :=
  b_X10_signOf_0 Z M x0 x1 x2 x3
set_option maxHeartbeats 4000000 in
set_option maxRecDepth 100000 in
set_option maxHeartbeats 4000000 in
set_option maxRecDepth 100000 in
set_option maxHeartbeats 4000000 in
set_option maxRecDepth 100000 in
theorem t_X10_signOf_0 (X : gX p s m args meth c D cy B (gSt Z B H0) RX10 cX10_signOf wsX10_signOf 8) (hr : meth.sig.returnType = (some (.object "TideLots$Sign"))) {Q : State → Prop} : ∀ (M : gMem) (x0 : Nat) (x1 : Int32) (x2 : Int32) (x3 : Option Nat) (z : Option Nat × gMem), b_X10_signOf_0 Z M x0 x1 x2 x3 = some z → (fun (r : Option Nat × gMem) => Q = gMQ below D cy B H0 args s 0 0 (some (vR r.1)) r.2) z → gGo p l e rX10_signOf s m args below meth c D cy B H0 8 0 0 Q 0 [(0, vR (some x0)), (1, vI x1), (2, vI x2), (3, vR x3)] [] M := sorry

set_option maxHeartbeats 4000000 in
set_option maxRecDepth 100000 in
theorem m_X10_signOf (l : Launch) {D : va_G} {cy : Nat → ClassId} {B : Nat} {H0 : Heap} {Z : Nat → Nat} {M M1 : gMem} {x0 : Nat} {x1 : Int32} {x2 : Int32} {x3 : Option Nat} {r : Option Nat} (hf : f_X10_signOf Z M x0 x1 x2 x3 = some (r, M1)) : Met l yX10_signOf wsX10_signOf rX10_signOf (va_Pc (Value.ref x0 :: List.map gv [vI x1, vI x2, vR x3]) (gPre D cy B H0 (gSt Z B H0) M)) (gQ D cy B H0 (some (vR r)) M1) 0 0 (gA B) := sorry

/-! ## TideLots$Tape.scanSymbol()LTideLots$Sign; -/
set_option maxRecDepth 20000 in
set_option maxRecDepth 20000 in
theorem gX10_scanSymbol_X10_signOf : GoodIn wsX10_scanSymbol (wsV RX10 76 RX10 yX10_signOf wsX10_signOf) := sorry

theorem i_X10_scanSymbol_X10 : ∀ w ∈ u_ws RX10 TX10 6, w ∈ wsX10_scanSymbol := sorry

abbrev rX10_scanSymbol : Room := { frames := 6, cells := 0, slots := 0, locals := 136 }
noncomputable def bb_X10_scanSymbol_2 (Z : Nat → Nat) (M : gMem) (x0 : Nat) (x1 : Int32) : Option ((gMem × Int32) ⊕ (Option Nat × gMem)) :=
  (if x1 < (1 : Int32) then oI (some ((some (Z 43)), M)) else ck (mT M x0 = 9) <| bd (f_X10_signOf Z M x0 ((mI M x0 5)) x1 ((some (Z 43)))) fun r3 M3 => (if r3 = (some (Z 43)) then some (.inl (M3, (x1 + (-1 : Int32)))) else ck (mT M3 x0 = 9) <| lw (wI M3 x0 5 (((mI M3 x0 5) + x1))) fun M5 => oI (some (r3, M5))))
noncomputable def lp_X10_scanSymbol_2 (Z : Nat → Nat) (M : gMem) (x0 : Nat) (x1 : Int32) : Option (Option Nat × gMem) :=
  lp (fun (q : gMem × Int32) => bb_X10_scanSymbol_2 Z q.1 x0 q.2) (M, x1)
noncomputable def b_X10_scanSymbol_0 (Z : Nat → Nat) (M : gMem) (x0 : Nat) : Option (Option Nat × gMem) :=
  lp_X10_scanSymbol_2 Z M x0 ((2 : Int32))
noncomputable def f_X10_scanSymbol (Z : Nat → Nat) (M : gMem) (x0 : Nat) : Option (Option Nat × gMem) :=
  b_X10_scanSymbol_0 Z M x0
set_option maxHeartbeats 4000000 in
set_option maxRecDepth 100000 in
set_option maxHeartbeats 4000000 in
set_option maxRecDepth 100000 in
set_option maxHeartbeats 4000000 in
set_option maxRecDepth 100000 in
theorem t_X10_scanSymbol_0 (X : gX p s m args meth c D cy B (gSt Z B H0) RX10 cX10_scanSymbol wsX10_scanSymbol 3) (hr : meth.sig.returnType = (some (.object "TideLots$Sign"))) {Q : State → Prop} : ∀ (M : gMem) (x0 : Nat) (z : Option Nat × gMem), b_X10_scanSymbol_0 Z M x0 = some z → (fun (r : Option Nat × gMem) => Q = gMQ below D cy B H0 args s 0 0 (some (vR r.1)) r.2) z → gGo p l e rX10_scanSymbol s m args below meth c D cy B H0 3 0 0 Q 0 [(0, vR (some x0))] [] M := sorry

set_option maxHeartbeats 4000000 in
set_option maxRecDepth 100000 in
theorem m_X10_scanSymbol (l : Launch) {D : va_G} {cy : Nat → ClassId} {B : Nat} {H0 : Heap} {Z : Nat → Nat} {M M1 : gMem} {x0 : Nat} {r : Option Nat} (hf : f_X10_scanSymbol Z M x0 = some (r, M1)) : Met l yX10_scanSymbol wsX10_scanSymbol rX10_scanSymbol (va_Pc (Value.ref x0 :: List.map gv []) (gPre D cy B H0 (gSt Z B H0) M)) (gQ D cy B H0 (some (vR r)) M1) 0 0 (gA B) := sorry

/-! ## TideLots$Tape.scanWord(I)LTideLots$Sign; -/
set_option maxRecDepth 20000 in
set_option maxRecDepth 20000 in
theorem gX10_scanWord_X10_signOf : GoodIn wsX10_scanWord (wsV RX10 76 RX10 yX10_signOf wsX10_signOf) := sorry

set_option maxRecDepth 20000 in
set_option maxRecDepth 20000 in
theorem gX10_scanWord_X10_isLetter : GoodIn wsX10_scanWord (wsV RX10 54 RX10 yX10_isLetter wsX10_isLetter) := sorry

set_option maxRecDepth 20000 in
set_option maxRecDepth 20000 in
theorem gX10_scanWord_X10_at : GoodIn wsX10_scanWord (wsV RX10 50 RX10 yX10_at wsX10_at) := sorry

set_option maxRecDepth 20000 in
set_option maxRecDepth 20000 in
theorem gX10_scanWord_X10_isDigit : GoodIn wsX10_scanWord (wsV RX10 61 RX10 yX10_isDigit wsX10_isDigit) := sorry

theorem i_X10_scanWord_X10 : ∀ w ∈ u_ws RX10 TX10 6, w ∈ wsX10_scanWord := sorry

abbrev rX10_scanWord : Room := { frames := 6, cells := 0, slots := 0, locals := 136 }
noncomputable def b_X10_scanWord_144 (Z : Nat → Nat) (M : gMem) (s0 : Option Nat) : Option (Option Nat × gMem) :=
  some (s0, M)
noncomputable def b_X10_scanWord_106 (Z : Nat → Nat) (M : gMem) (x0 : Nat) (x1 : Int32) (x2 : Int32) (x3 : Int64) : Option (Option Nat × gMem) :=
  ck (mT M x0 = 9) <| dr ((mR M x0 4)) fun a2 => ck (mT M a2 = 21) <| ck (inb x1 (mL M a2)) <| lw (wJ M a2 x1.toNatClampNeg x3) fun M5 => (if ((mI M5 x0 5) - x2) ≤ (10 : Int32) then bd (f_X10_signOf Z M5 x0 x2 (((mI M5 x0 5) - x2)) ((some (Z 40)))) fun r8 M8 => b_X10_scanWord_144 Z M8 r8 else b_X10_scanWord_144 Z M5 ((some (Z 43))))
noncomputable def b_X10_scanWord_81 (Z : Nat → Nat) (M : gMem) (x0 : Nat) (x1 : Int32) (x2 : Int32) (x3 : Int64) (s0 : Int32) : Option ((gMem × Int64) ⊕ (Option Nat × gMem)) :=
  ck (mT M x0 = 9) <| lw (wI M x0 5 (((mI M x0 5) + (1 : Int32)))) fun M10 => some (.inl (M10, ((x3 * (37 : Int64)) + (Int32.toInt64 s0))))
noncomputable def b_X10_scanWord_40 (Z : Nat → Nat) (M : gMem) (x0 : Nat) (x1 : Int32) (x2 : Int32) (x3 : Int64) : Option ((gMem × Int64) ⊕ (Option Nat × gMem)) :=
  ck (mT M x0 = 9) <| bd (f_X10_isLetter M x0 ((mI M x0 5))) fun r13 M13 => (if r13 = 0 then ck (mT M13 x0 = 9) <| bd (f_X10_at M13 x0 ((mI M13 x0 5))) fun r15 M15 => b_X10_scanWord_81 Z M15 x0 x1 x2 x3 (((r15 - (48 : Int32)) + (1 : Int32))) else ck (mT M13 x0 = 9) <| bd (f_X10_at M13 x0 ((mI M13 x0 5))) fun r17 M17 => b_X10_scanWord_81 Z M17 x0 x1 x2 x3 (((r17 - (97 : Int32)) + (11 : Int32))))
noncomputable def bb_X10_scanWord_7 (Z : Nat → Nat) (M : gMem) (x0 : Nat) (x1 : Int32) (x2 : Int32) (x3 : Int64) : Option ((gMem × Int64) ⊕ (Option Nat × gMem)) :=
  ck (mT M x0 = 9) <| (if (mI M x0 0) ≤ (mI M x0 5) then oI (b_X10_scanWord_106 Z M x0 x1 x2 x3) else bd (f_X10_isLetter M x0 ((mI M x0 5))) fun r20 M20 => (if r20 = 0 then ck (mT M20 x0 = 9) <| bd (f_X10_isDigit M20 x0 ((mI M20 x0 5))) fun r22 M22 => (if r22 = 0 then oI (b_X10_scanWord_106 Z M22 x0 x1 x2 x3) else b_X10_scanWord_40 Z M22 x0 x1 x2 x3) else b_X10_scanWord_40 Z M20 x0 x1 x2 x3))
noncomputable def lp_X10_scanWord_7 (Z : Nat → Nat) (M : gMem) (x0 : Nat) (x1 : Int32) (x2 : Int32) (x3 : Int64) : Option (Option Nat × gMem) :=
  lp (fun (q : gMem × Int64) => bb_X10_scanWord_7 Z q.1 x0 x1 x2 q.2) (M, x3)
noncomputable def b_X10_scanWord_0 (Z : Nat → Nat) (M : gMem) (x0 : Nat) (x1 : Int32) : Option (Option Nat × gMem) :=
  ck (mT M x0 = 9) <| lp_X10_scanWord_7 Z M x0 x1 ((mI M x0 5)) ((0 : Int64))
noncomputable def f_X10_scanWord (Z : Nat → Nat) (M : gMem) (x0 : Nat) (x1 : Int32) : Option (Option Nat × gMem) :=
  b_X10_scanWord_0 Z M x0 x1
set_option maxHeartbeats 4000000 in
set_option maxRecDepth 100000 in
theorem t_X10_scanWord_144 (X : gX p s m args meth c D cy B (gSt Z B H0) RX10 cX10_scanWord wsX10_scanWord 6) (hr : meth.sig.returnType = (some (.object "TideLots$Sign"))) {Q : State → Prop} : ∀ (M : gMem) (s0 : Option Nat) (z : Option Nat × gMem), b_X10_scanWord_144 Z M s0 = some z → (fun (r : Option Nat × gMem) => Q = gMQ below D cy B H0 args s 0 0 (some (vR r.1)) r.2) z → gGo p l e rX10_scanWord s m args below meth c D cy B H0 6 0 0 Q 144 [] [vR s0] M := sorry

set_option maxHeartbeats 4000000 in
set_option maxRecDepth 100000 in
theorem t_X10_scanWord_106 (X : gX p s m args meth c D cy B (gSt Z B H0) RX10 cX10_scanWord wsX10_scanWord 6) (hr : meth.sig.returnType = (some (.object "TideLots$Sign"))) {Q : State → Prop} : ∀ (M : gMem) (x0 : Nat) (x1 : Int32) (x2 : Int32) (x3 : Int64) (z : Option Nat × gMem), b_X10_scanWord_106 Z M x0 x1 x2 x3 = some z → (fun (r : Option Nat × gMem) => Q = gMQ below D cy B H0 args s 0 0 (some (vR r.1)) r.2) z → gGo p l e rX10_scanWord s m args below meth c D cy B H0 6 0 0 Q 106 [(0, vR (some x0)), (1, vI x1), (2, vI x2), (3, vJ x3)] [] M := sorry

set_option maxHeartbeats 4000000 in
set_option maxRecDepth 100000 in
theorem t_X10_scanWord_81 (X : gX p s m args meth c D cy B (gSt Z B H0) RX10 cX10_scanWord wsX10_scanWord 6) (hr : meth.sig.returnType = (some (.object "TideLots$Sign"))) {Q : State → Prop} : ∀ (M : gMem) (x0 : Nat) (x1 : Int32) (x2 : Int32) (x3 : Int64) (s0 : Int32) (z : (gMem × Int64) ⊕ (Option Nat × gMem)), b_X10_scanWord_81 Z M x0 x1 x2 x3 s0 = some z → (Sum.elim (fun (q : gMem × Int64) => gGo p l e rX10_scanWord s m args below meth c D cy B H0 6 0 0 Q 7 [(0, vR (some x0)), (1, vI x1), (2, vI x2), (3, vJ q.2)] [] q.1) (fun (r : Option Nat × gMem) => Q = gMQ below D cy B H0 args s 0 0 (some (vR r.1)) r.2)) z → gGo p l e rX10_scanWord s m args below meth c D cy B H0 6 0 0 Q 81 [(0, vR (some x0)), (1, vI x1), (2, vI x2), (3, vJ x3)] [vI s0] M := sorry

set_option maxHeartbeats 4000000 in
set_option maxRecDepth 100000 in
theorem t_X10_scanWord_40 (X : gX p s m args meth c D cy B (gSt Z B H0) RX10 cX10_scanWord wsX10_scanWord 6) (hr : meth.sig.returnType = (some (.object "TideLots$Sign"))) {Q : State → Prop} : ∀ (M : gMem) (x0 : Nat) (x1 : Int32) (x2 : Int32) (x3 : Int64) (z : (gMem × Int64) ⊕ (Option Nat × gMem)), b_X10_scanWord_40 Z M x0 x1 x2 x3 = some z → (Sum.elim (fun (q : gMem × Int64) => gGo p l e rX10_scanWord s m args below meth c D cy B H0 6 0 0 Q 7 [(0, vR (some x0)), (1, vI x1), (2, vI x2), (3, vJ q.2)] [] q.1) (fun (r : Option Nat × gMem) => Q = gMQ below D cy B H0 args s 0 0 (some (vR r.1)) r.2)) z → gGo p l e rX10_scanWord s m args below meth c D cy B H0 6 0 0 Q 40 [(0, vR (some x0)), (1, vI x1), (2, vI x2), (3, vJ x3)] [] M := sorry

set_option maxHeartbeats 4000000 in
set_option maxRecDepth 100000 in
set_option maxHeartbeats 4000000 in
set_option maxRecDepth 100000 in
set_option maxHeartbeats 4000000 in
set_option maxRecDepth 100000 in
theorem t_X10_scanWord_0 (X : gX p s m args meth c D cy B (gSt Z B H0) RX10 cX10_scanWord wsX10_scanWord 6) (hr : meth.sig.returnType = (some (.object "TideLots$Sign"))) {Q : State → Prop} : ∀ (M : gMem) (x0 : Nat) (x1 : Int32) (z : Option Nat × gMem), b_X10_scanWord_0 Z M x0 x1 = some z → (fun (r : Option Nat × gMem) => Q = gMQ below D cy B H0 args s 0 0 (some (vR r.1)) r.2) z → gGo p l e rX10_scanWord s m args below meth c D cy B H0 6 0 0 Q 0 [(0, vR (some x0)), (1, vI x1)] [] M := sorry

set_option maxHeartbeats 4000000 in
set_option maxRecDepth 100000 in
theorem m_X10_scanWord (l : Launch) {D : va_G} {cy : Nat → ClassId} {B : Nat} {H0 : Heap} {Z : Nat → Nat} {M M1 : gMem} {x0 : Nat} {x1 : Int32} {r : Option Nat} (hf : f_X10_scanWord Z M x0 x1 = some (r, M1)) : Met l yX10_scanWord wsX10_scanWord rX10_scanWord (va_Pc (Value.ref x0 :: List.map gv [vI x1]) (gPre D cy B H0 (gSt Z B H0) M)) (gQ D cy B H0 (some (vR r)) M1) 0 0 (gA B) := sorry

/-! ## TideLots$Tape.scanNumber(I)LTideLots$Sign; -/
set_option maxRecDepth 20000 in
set_option maxRecDepth 20000 in
theorem gX10_scanNumber_X10_isDigit : GoodIn wsX10_scanNumber (wsV RX10 61 RX10 yX10_isDigit wsX10_isDigit) := sorry

set_option maxRecDepth 20000 in
set_option maxRecDepth 20000 in
theorem gX10_scanNumber_X10_at : GoodIn wsX10_scanNumber (wsV RX10 50 RX10 yX10_at wsX10_at) := sorry

theorem i_X10_scanNumber_X10 : ∀ w ∈ u_ws RX10 TX10 6, w ∈ wsX10_scanNumber := sorry

abbrev rX10_scanNumber : Room := { frames := 2, cells := 0, slots := 0, locals := 42 }
noncomputable def b_X10_scanNumber_88 (Z : Nat → Nat) (M : gMem) (s0 : Option Nat) : Option (Option Nat × gMem) :=
  some (s0, M)
noncomputable def b_X10_scanNumber_61 (Z : Nat → Nat) (M : gMem) (x0 : Nat) (x1 : Int32) (x2 : Int32) (x3 : Int64) : Option (Option Nat × gMem) :=
  ck (mT M x0 = 9) <| dr ((mR M x0 4)) fun a2 => ck (mT M a2 = 21) <| ck (inb x1 (mL M a2)) <| lw (wJ M a2 x1.toNatClampNeg x3) fun M5 => (if ((mI M5 x0 5) - x2) ≤ (6 : Int32) then b_X10_scanNumber_88 Z M5 ((some (Z 41))) else b_X10_scanNumber_88 Z M5 ((some (Z 43))))
noncomputable def bb_X10_scanNumber_7 (Z : Nat → Nat) (M : gMem) (x0 : Nat) (x1 : Int32) (x2 : Int32) (x3 : Int64) : Option ((gMem × Int64) ⊕ (Option Nat × gMem)) :=
  ck (mT M x0 = 9) <| (if (mI M x0 0) ≤ (mI M x0 5) then oI (b_X10_scanNumber_61 Z M x0 x1 x2 x3) else bd (f_X10_isDigit M x0 ((mI M x0 5))) fun r10 M10 => (if r10 = 0 then oI (b_X10_scanNumber_61 Z M10 x0 x1 x2 x3) else ck (mT M10 x0 = 9) <| bd (f_X10_at M10 x0 ((mI M10 x0 5))) fun r13 M13 => ck (mT M13 x0 = 9) <| lw (wI M13 x0 5 (((mI M13 x0 5) + (1 : Int32)))) fun M15 => some (.inl (M15, ((x3 * (10 : Int64)) + (Int32.toInt64 (r13 - (48 : Int32))))))))
noncomputable def lp_X10_scanNumber_7 (Z : Nat → Nat) (M : gMem) (x0 : Nat) (x1 : Int32) (x2 : Int32) (x3 : Int64) : Option (Option Nat × gMem) :=
  lp (fun (q : gMem × Int64) => bb_X10_scanNumber_7 Z q.1 x0 x1 x2 q.2) (M, x3)
noncomputable def b_X10_scanNumber_0 (Z : Nat → Nat) (M : gMem) (x0 : Nat) (x1 : Int32) : Option (Option Nat × gMem) :=
  ck (mT M x0 = 9) <| lp_X10_scanNumber_7 Z M x0 x1 ((mI M x0 5)) ((0 : Int64))
noncomputable def f_X10_scanNumber (Z : Nat → Nat) (M : gMem) (x0 : Nat) (x1 : Int32) : Option (Option Nat × gMem) :=
  b_X10_scanNumber_0 Z M x0 x1
set_option maxHeartbeats 4000000 in
set_option maxRecDepth 100000 in
theorem t_X10_scanNumber_88 (X : gX p s m args meth c D cy B (gSt Z B H0) RX10 cX10_scanNumber wsX10_scanNumber 5) (hr : meth.sig.returnType = (some (.object "TideLots$Sign"))) {Q : State → Prop} : ∀ (M : gMem) (s0 : Option Nat) (z : Option Nat × gMem), b_X10_scanNumber_88 Z M s0 = some z → (fun (r : Option Nat × gMem) => Q = gMQ below D cy B H0 args s 0 0 (some (vR r.1)) r.2) z → gGo p l e rX10_scanNumber s m args below meth c D cy B H0 5 0 0 Q 88 [] [vR s0] M := sorry

set_option maxHeartbeats 4000000 in
set_option maxRecDepth 100000 in
theorem t_X10_scanNumber_61 (X : gX p s m args meth c D cy B (gSt Z B H0) RX10 cX10_scanNumber wsX10_scanNumber 5) (hr : meth.sig.returnType = (some (.object "TideLots$Sign"))) {Q : State → Prop} : ∀ (M : gMem) (x0 : Nat) (x1 : Int32) (x2 : Int32) (x3 : Int64) (z : Option Nat × gMem), b_X10_scanNumber_61 Z M x0 x1 x2 x3 = some z → (fun (r : Option Nat × gMem) => Q = gMQ below D cy B H0 args s 0 0 (some (vR r.1)) r.2) z → gGo p l e rX10_scanNumber s m args below meth c D cy B H0 5 0 0 Q 61 [(0, vR (some x0)), (1, vI x1), (2, vI x2), (3, vJ x3)] [] M := sorry

set_option maxHeartbeats 4000000 in
set_option maxRecDepth 100000 in
set_option maxHeartbeats 4000000 in
set_option maxRecDepth 100000 in
set_option maxHeartbeats 4000000 in
set_option maxRecDepth 100000 in
theorem t_X10_scanNumber_0 (X : gX p s m args meth c D cy B (gSt Z B H0) RX10 cX10_scanNumber wsX10_scanNumber 5) (hr : meth.sig.returnType = (some (.object "TideLots$Sign"))) {Q : State → Prop} : ∀ (M : gMem) (x0 : Nat) (x1 : Int32) (z : Option Nat × gMem), b_X10_scanNumber_0 Z M x0 x1 = some z → (fun (r : Option Nat × gMem) => Q = gMQ below D cy B H0 args s 0 0 (some (vR r.1)) r.2) z → gGo p l e rX10_scanNumber s m args below meth c D cy B H0 5 0 0 Q 0 [(0, vR (some x0)), (1, vI x1)] [] M := sorry

set_option maxHeartbeats 4000000 in
set_option maxRecDepth 100000 in
theorem m_X10_scanNumber (l : Launch) {D : va_G} {cy : Nat → ClassId} {B : Nat} {H0 : Heap} {Z : Nat → Nat} {M M1 : gMem} {x0 : Nat} {x1 : Int32} {r : Option Nat} (hf : f_X10_scanNumber Z M x0 x1 = some (r, M1)) : Met l yX10_scanNumber wsX10_scanNumber rX10_scanNumber (va_Pc (Value.ref x0 :: List.map gv [vI x1]) (gPre D cy B H0 (gSt Z B H0) M)) (gQ D cy B H0 (some (vR r)) M1) 0 0 (gA B) := sorry

/-! ## TideLots$Tape.scanToken(I)LTideLots$Sign; -/
set_option maxRecDepth 20000 in
set_option maxRecDepth 20000 in
theorem gX10_scanToken_X10_isLetter : GoodIn wsX10_scanToken (wsV RX10 54 RX10 yX10_isLetter wsX10_isLetter) := sorry

set_option maxRecDepth 20000 in
set_option maxRecDepth 20000 in
theorem gX10_scanToken_X10_isDigit : GoodIn wsX10_scanToken (wsV RX10 61 RX10 yX10_isDigit wsX10_isDigit) := sorry

set_option maxRecDepth 20000 in
set_option maxRecDepth 20000 in
theorem gX10_scanToken_X10_scanSymbol : GoodIn wsX10_scanToken (wsV RX10 67 RX10 yX10_scanSymbol wsX10_scanSymbol) := sorry

set_option maxRecDepth 20000 in
set_option maxRecDepth 20000 in
theorem gX10_scanToken_X10_scanNumber : GoodIn wsX10_scanToken (wsV RX10 64 RX10 yX10_scanNumber wsX10_scanNumber) := sorry

set_option maxRecDepth 20000 in
set_option maxRecDepth 20000 in
theorem gX10_scanToken_X10_scanWord : GoodIn wsX10_scanToken (wsV RX10 58 RX10 yX10_scanWord wsX10_scanWord) := sorry

theorem i_X10_scanToken_X10 : ∀ w ∈ u_ws RX10 TX10 6, w ∈ wsX10_scanToken := sorry

abbrev rX10_scanToken : Room := { frames := 7, cells := 0, slots := 0, locals := 161 }
noncomputable def b_X10_scanToken_55 (Z : Nat → Nat) (M : gMem) (s0 : Option Nat) : Option (Option Nat × gMem) :=
  some (s0, M)
noncomputable def b_X10_scanToken_0 (Z : Nat → Nat) (M : gMem) (x0 : Nat) (x1 : Int32) : Option (Option Nat × gMem) :=
  ck (mT M x0 = 9) <| (if (mI M x0 5) < (mI M x0 0) then bd (f_X10_isLetter M x0 ((mI M x0 5))) fun r2 M2 => (if r2 = 0 then ck (mT M2 x0 = 9) <| bd (f_X10_isDigit M2 x0 ((mI M2 x0 5))) fun r4 M4 => (if r4 = 0 then ck (mT M4 x0 = 9) <| bd (f_X10_scanSymbol Z M4 x0) fun r5 M5 => b_X10_scanToken_55 Z M5 r5 else ck (mT M4 x0 = 9) <| bd (f_X10_scanNumber Z M4 x0 x1) fun r7 M7 => b_X10_scanToken_55 Z M7 r7) else ck (mT M2 x0 = 9) <| bd (f_X10_scanWord Z M2 x0 x1) fun r9 M9 => some (r9, M9)) else some ((some (Z 42)), M))
noncomputable def f_X10_scanToken (Z : Nat → Nat) (M : gMem) (x0 : Nat) (x1 : Int32) : Option (Option Nat × gMem) :=
  b_X10_scanToken_0 Z M x0 x1
set_option maxHeartbeats 4000000 in
set_option maxRecDepth 100000 in
theorem t_X10_scanToken_55 (X : gX p s m args meth c D cy B (gSt Z B H0) RX10 cX10_scanToken wsX10_scanToken 2) (hr : meth.sig.returnType = (some (.object "TideLots$Sign"))) {Q : State → Prop} : ∀ (M : gMem) (s0 : Option Nat) (z : Option Nat × gMem), b_X10_scanToken_55 Z M s0 = some z → (fun (r : Option Nat × gMem) => Q = gMQ below D cy B H0 args s 0 0 (some (vR r.1)) r.2) z → gGo p l e rX10_scanToken s m args below meth c D cy B H0 2 0 0 Q 55 [] [vR s0] M := sorry

set_option maxHeartbeats 4000000 in
set_option maxRecDepth 100000 in
theorem t_X10_scanToken_0 (X : gX p s m args meth c D cy B (gSt Z B H0) RX10 cX10_scanToken wsX10_scanToken 2) (hr : meth.sig.returnType = (some (.object "TideLots$Sign"))) {Q : State → Prop} : ∀ (M : gMem) (x0 : Nat) (x1 : Int32) (z : Option Nat × gMem), b_X10_scanToken_0 Z M x0 x1 = some z → (fun (r : Option Nat × gMem) => Q = gMQ below D cy B H0 args s 0 0 (some (vR r.1)) r.2) z → gGo p l e rX10_scanToken s m args below meth c D cy B H0 2 0 0 Q 0 [(0, vR (some x0)), (1, vI x1)] [] M := sorry

set_option maxHeartbeats 4000000 in
set_option maxRecDepth 100000 in
theorem m_X10_scanToken (l : Launch) {D : va_G} {cy : Nat → ClassId} {B : Nat} {H0 : Heap} {Z : Nat → Nat} {M M1 : gMem} {x0 : Nat} {x1 : Int32} {r : Option Nat} (hf : f_X10_scanToken Z M x0 x1 = some (r, M1)) : Met l yX10_scanToken wsX10_scanToken rX10_scanToken (va_Pc (Value.ref x0 :: List.map gv [vI x1]) (gPre D cy B H0 (gSt Z B H0) M)) (gQ D cy B H0 (some (vR r)) M1) 0 0 (gA B) := sorry

/-! ## TideLots$Tape.scan()V -/
set_option maxRecDepth 20000 in
set_option maxRecDepth 20000 in
theorem gX10_scan_X10_scanToken : GoodIn wsX10_scan (wsV RX10 43 RX10 yX10_scanToken wsX10_scanToken) := sorry

set_option maxRecDepth 20000 in
set_option maxRecDepth 20000 in
theorem gX10_scan_X10_skipBlanks : GoodIn wsX10_scan (wsV RX10 40 RX10 yX10_skipBlanks wsX10_skipBlanks) := sorry

theorem i_X10_scan_X10 : ∀ w ∈ u_ws RX10 TX10 6, w ∈ wsX10_scan := sorry

abbrev rX10_scan : Room := { frames := 8, cells := 0, slots := 0, locals := 182 }
noncomputable def b_X10_scan_87 (Z : Nat → Nat) (M : gMem)  : Option (Unit × gMem) :=
  some ((), M)
noncomputable def b_X10_scan_62 (Z : Nat → Nat) (M : gMem) (x0 : Nat) (x1 : Int32) (s0 : Option Nat) (s1 : Int32) (s2 : Option Nat) : Option ((gMem × Int32) ⊕ (Unit × gMem)) :=
  dr s0 fun a1 => ck (mT M a1 = 27) <| ck (inb s1 (mL M a1)) <| dr (ordZ Z s2) fun o4 => lw (wR M a1 s1.toNatClampNeg s2) fun M5 => ck (mT M5 x0 = 9) <| dr ((mR M5 x0 2)) fun a8 => ck (mT M5 a8 = 27) <| ck (inb x1 (mL M5 a8)) <| (if (mR M5 a8 x1.toNatClampNeg) = (some (Z 42)) then oI (b_X10_scan_87 Z M5 ) else ck (inb x1 (mL M5 a8)) <| (if (mR M5 a8 x1.toNatClampNeg) = (some (Z 43)) then oI (b_X10_scan_87 Z M5 ) else some (.inl (M5, (x1 + (1 : Int32))))))
noncomputable def b_X10_scan_51 (Z : Nat → Nat) (M : gMem) (x0 : Nat) (x1 : Int32) (s0 : Option Nat) (s1 : Int32) : Option ((gMem × Int32) ⊕ (Unit × gMem)) :=
  ck (mT M x0 = 9) <| bd (f_X10_scanToken Z M x0 x1) fun r14 M14 => b_X10_scan_62 Z M14 x0 x1 s0 s1 r14
noncomputable def bb_X10_scan_7 (Z : Nat → Nat) (M : gMem) (x0 : Nat) (x1 : Int32) : Option ((gMem × Int32) ⊕ (Unit × gMem)) :=
  (if (400 : Int32) < x1 then oI (some ((), M)) else ck (mT M x0 = 9) <| bd (f_X10_skipBlanks M x0) fun _ M17 => ck (mT M17 x0 = 9) <| dr ((mR M17 x0 3)) fun a20 => ck (mT M17 a20 = 20) <| ck (inb x1 (mL M17 a20)) <| lw (wI M17 a20 x1.toNatClampNeg ((mI M17 x0 5))) fun M23 => (if x1 < (400 : Int32) then b_X10_scan_51 Z M23 x0 x1 ((mR M23 x0 2)) x1 else (if (mI M23 x0 5) < (mI M23 x0 0) then b_X10_scan_62 Z M23 x0 x1 ((mR M23 x0 2)) x1 ((some (Z 43))) else b_X10_scan_51 Z M23 x0 x1 ((mR M23 x0 2)) x1)))
noncomputable def lp_X10_scan_7 (Z : Nat → Nat) (M : gMem) (x0 : Nat) (x1 : Int32) : Option (Unit × gMem) :=
  lp (fun (q : gMem × Int32) => bb_X10_scan_7 Z q.1 x0 q.2) (M, x1)
noncomputable def b_X10_scan_0 (Z : Nat → Nat) (M : gMem) (x0 : Nat) : Option (Unit × gMem) :=
  ck (mT M x0 = 9) <| lw (wI M x0 5 ((0 : Int32))) fun M27 => lp_X10_scan_7 Z M27 x0 ((0 : Int32))
noncomputable def f_X10_scan (Z : Nat → Nat) (M : gMem) (x0 : Nat) : Option (Unit × gMem) :=
  b_X10_scan_0 Z M x0
set_option maxHeartbeats 4000000 in
set_option maxRecDepth 100000 in
theorem t_X10_scan_87 (X : gX p s m args meth c D cy B (gSt Z B H0) RX10 cX10_scan wsX10_scan 2) (hr : meth.sig.returnType = none) {Q : State → Prop} : ∀ (M : gMem)  (z : Unit × gMem), b_X10_scan_87 Z M  = some z → (fun (r : Unit × gMem) => Q = gMQ below D cy B H0 args s 0 0 none r.2) z → gGo p l e rX10_scan s m args below meth c D cy B H0 2 0 0 Q 87 [] [] M := sorry

set_option maxHeartbeats 4000000 in
set_option maxRecDepth 100000 in
theorem t_X10_scan_62 (X : gX p s m args meth c D cy B (gSt Z B H0) RX10 cX10_scan wsX10_scan 2) (hr : meth.sig.returnType = none) {Q : State → Prop} : ∀ (M : gMem) (x0 : Nat) (x1 : Int32) (s0 : Option Nat) (s1 : Int32) (s2 : Option Nat) (z : (gMem × Int32) ⊕ (Unit × gMem)), b_X10_scan_62 Z M x0 x1 s0 s1 s2 = some z → (Sum.elim (fun (q : gMem × Int32) => gGo p l e rX10_scan s m args below meth c D cy B H0 2 0 0 Q 7 [(0, vR (some x0)), (1, vI q.2)] [] q.1) (fun (r : Unit × gMem) => Q = gMQ below D cy B H0 args s 0 0 none r.2)) z → gGo p l e rX10_scan s m args below meth c D cy B H0 2 0 0 Q 62 [(0, vR (some x0)), (1, vI x1)] [vR s2, vI s1, vR s0] M := sorry

set_option maxHeartbeats 4000000 in
set_option maxRecDepth 100000 in
theorem t_X10_scan_51 (X : gX p s m args meth c D cy B (gSt Z B H0) RX10 cX10_scan wsX10_scan 2) (hr : meth.sig.returnType = none) {Q : State → Prop} : ∀ (M : gMem) (x0 : Nat) (x1 : Int32) (s0 : Option Nat) (s1 : Int32) (z : (gMem × Int32) ⊕ (Unit × gMem)), b_X10_scan_51 Z M x0 x1 s0 s1 = some z → (Sum.elim (fun (q : gMem × Int32) => gGo p l e rX10_scan s m args below meth c D cy B H0 2 0 0 Q 7 [(0, vR (some x0)), (1, vI q.2)] [] q.1) (fun (r : Unit × gMem) => Q = gMQ below D cy B H0 args s 0 0 none r.2)) z → gGo p l e rX10_scan s m args below meth c D cy B H0 2 0 0 Q 51 [(0, vR (some x0)), (1, vI x1)] [vI s1, vR s0] M := sorry

set_option maxHeartbeats 4000000 in
set_option maxRecDepth 100000 in
set_option maxHeartbeats 4000000 in
set_option maxRecDepth 100000 in
set_option maxHeartbeats 4000000 in
set_option maxRecDepth 100000 in
theorem t_X10_scan_0 (X : gX p s m args meth c D cy B (gSt Z B H0) RX10 cX10_scan wsX10_scan 2) (hr : meth.sig.returnType = none) {Q : State → Prop} : ∀ (M : gMem) (x0 : Nat) (z : Unit × gMem), b_X10_scan_0 Z M x0 = some z → (fun (r : Unit × gMem) => Q = gMQ below D cy B H0 args s 0 0 none r.2) z → gGo p l e rX10_scan s m args below meth c D cy B H0 2 0 0 Q 0 [(0, vR (some x0))] [] M := sorry

set_option maxHeartbeats 4000000 in
set_option maxRecDepth 100000 in
theorem m_X10_scan (l : Launch) {D : va_G} {cy : Nat → ClassId} {B : Nat} {H0 : Heap} {Z : Nat → Nat} {M M1 : gMem} {x0 : Nat} {r : Unit} (hf : f_X10_scan Z M x0 = some (r, M1)) : Met l yX10_scan wsX10_scan rX10_scan (va_Pc (Value.ref x0 :: List.map gv []) (gPre D cy B H0 (gSt Z B H0) M)) (gQ D cy B H0 none M1) 0 0 (gA B) := sorry

end
