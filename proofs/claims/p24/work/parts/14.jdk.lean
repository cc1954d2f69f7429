section
variable {p : Program} {l : Launch} {e : Env} {s : State} {m : MethodId} {args : Array Value} {below : List Frame} {meth : Method} {c : Code} {D : va_G} {cy : Nat → ClassId} {B : Nat} {H0 : Heap} {Z : Nat → Nat}
/-! ## java/lang/String.coder()B -/
abbrev rJ0_coder_7d493 : Room := { frames := 0, cells := 0, slots := 0, locals := 0 }
noncomputable def b_J0_coder_7d493_14 (Z : Nat → Nat) (M : gMem) (s0 : Int32) : Option (Int32 × gMem) :=
  ck (i2bV s0 = s0) <| some (s0, M)
noncomputable def b_J0_coder_7d493_0 (Z : Nat → Nat) (M : gMem) (x0 : Nat) : Option (Int32 × gMem) :=
  ck (x0 < 94) <| b_J0_coder_7d493_14 Z M ((0 : Int32))
noncomputable def f_J0_coder_7d493 (Z : Nat → Nat) (M : gMem) (x0 : Nat) : Option (Int32 × gMem) :=
  b_J0_coder_7d493_0 Z M x0
set_option maxHeartbeats 4000000 in
set_option maxRecDepth 100000 in
theorem t_J0_coder_7d493_14 (X : gX p s m args meth c D cy B (gSt Z B H0) RJ0 cJ0_coder_7d493 wsJ0_coder_7d493 1) (hr : meth.sig.returnType = (some .byte)) {Q : State → Prop} : ∀ (M : gMem) (s0 : Int32) (z : Int32 × gMem), b_J0_coder_7d493_14 Z M s0 = some z → (fun (r : Int32 × gMem) => Q = gMQ below D cy B H0 args s 0 0 (some (vI r.1)) r.2) z → gGo p l e rJ0_coder_7d493 s m args below meth c D cy B H0 1 0 0 Q 14 [] [vI s0] M := sorry

set_option maxHeartbeats 4000000 in
set_option maxRecDepth 100000 in
theorem t_J0_coder_7d493_0 (X : gX p s m args meth c D cy B (gSt Z B H0) RJ0 cJ0_coder_7d493 wsJ0_coder_7d493 1) (hr : meth.sig.returnType = (some .byte)) {Q : State → Prop} : ∀ (M : gMem) (x0 : Nat) (z : Int32 × gMem), b_J0_coder_7d493_0 Z M x0 = some z → (fun (r : Int32 × gMem) => Q = gMQ below D cy B H0 args s 0 0 (some (vI r.1)) r.2) z → gGo p l e rJ0_coder_7d493 s m args below meth c D cy B H0 1 0 0 Q 0 [(0, vR (some (Z (100 + x0))))] [] M := sorry

set_option maxHeartbeats 4000000 in
set_option maxRecDepth 100000 in
theorem m_J0_coder_7d493 (l : Launch) {D : va_G} {cy : Nat → ClassId} {B : Nat} {H0 : Heap} {Z : Nat → Nat} {M M1 : gMem} {x0 : Nat} {r : Int32} (hf : f_J0_coder_7d493 Z M x0 = some (r, M1)) : Met l yJ0_coder_7d493 wsJ0_coder_7d493 rJ0_coder_7d493 (va_Pc (Value.ref (Z (100 + x0)) :: List.map gv []) (gPre D cy B H0 (gSt Z B H0) M)) (gQ D cy B H0 (some (vI r)) M1) 0 0 (gA B) := sorry

/-! ## java/lang/String.length()I -/
set_option maxRecDepth 20000 in
set_option maxRecDepth 20000 in
theorem gJ0_length_8abf5_J0_coder_7d493 : GoodIn wsJ0_length_8abf5 (wsV RJ0 335 RJ0 yJ0_coder_7d493 wsJ0_coder_7d493) := sorry

abbrev rJ0_length_8abf5 : Room := { frames := 1, cells := 0, slots := 0, locals := 20 }
noncomputable def b_J0_length_8abf5_0 (Z : Nat → Nat) (M : gMem) (x0 : Nat) : Option (Int32 × gMem) :=
  ck (x0 < 94) <| bd (f_J0_coder_7d493 Z M x0) fun r2 M2 => some (((Int32.ofNat (sLn x0)) >>> (r2 &&& 31)), M2)
noncomputable def f_J0_length_8abf5 (Z : Nat → Nat) (M : gMem) (x0 : Nat) : Option (Int32 × gMem) :=
  b_J0_length_8abf5_0 Z M x0
set_option maxHeartbeats 4000000 in
set_option maxRecDepth 100000 in
theorem t_J0_length_8abf5_0 (X : gX p s m args meth c D cy B (gSt Z B H0) RJ0 cJ0_length_8abf5 wsJ0_length_8abf5 1) (hr : meth.sig.returnType = (some .int)) {Q : State → Prop} : ∀ (M : gMem) (x0 : Nat) (z : Int32 × gMem), b_J0_length_8abf5_0 Z M x0 = some z → (fun (r : Int32 × gMem) => Q = gMQ below D cy B H0 args s 0 0 (some (vI r.1)) r.2) z → gGo p l e rJ0_length_8abf5 s m args below meth c D cy B H0 1 0 0 Q 0 [(0, vR (some (Z (100 + x0))))] [] M := sorry

set_option maxHeartbeats 4000000 in
set_option maxRecDepth 100000 in
theorem m_J0_length_8abf5 (l : Launch) {D : va_G} {cy : Nat → ClassId} {B : Nat} {H0 : Heap} {Z : Nat → Nat} {M M1 : gMem} {x0 : Nat} {r : Int32} (hf : f_J0_length_8abf5 Z M x0 = some (r, M1)) : Met l yJ0_length_8abf5 wsJ0_length_8abf5 rJ0_length_8abf5 (va_Pc (Value.ref (Z (100 + x0)) :: List.map gv []) (gPre D cy B H0 (gSt Z B H0) M)) (gQ D cy B H0 (some (vI r)) M1) 0 0 (gA B) := sorry

/-! ## java/lang/String.isLatin1()Z -/
abbrev rJ0_isLatin1_aae02 : Room := { frames := 0, cells := 0, slots := 0, locals := 0 }
noncomputable def b_J0_isLatin1_aae02_18 (Z : Nat → Nat) (M : gMem) (s0 : Int32) : Option (Int32 × gMem) :=
  ck (s0 = 0 ∨ s0 = 1) <| some (s0, M)
noncomputable def b_J0_isLatin1_aae02_17 (Z : Nat → Nat) (M : gMem)  : Option (Int32 × gMem) :=
  b_J0_isLatin1_aae02_18 Z M ((0 : Int32))
noncomputable def b_J0_isLatin1_aae02_0 (Z : Nat → Nat) (M : gMem) (x0 : Nat) : Option (Int32 × gMem) :=
  ck (x0 < 94) <| b_J0_isLatin1_aae02_18 Z M ((1 : Int32))
noncomputable def f_J0_isLatin1_aae02 (Z : Nat → Nat) (M : gMem) (x0 : Nat) : Option (Int32 × gMem) :=
  b_J0_isLatin1_aae02_0 Z M x0
set_option maxHeartbeats 4000000 in
set_option maxRecDepth 100000 in
theorem t_J0_isLatin1_aae02_18 (X : gX p s m args meth c D cy B (gSt Z B H0) RJ0 cJ0_isLatin1_aae02 wsJ0_isLatin1_aae02 1) (hr : meth.sig.returnType = (some .boolean)) {Q : State → Prop} : ∀ (M : gMem) (s0 : Int32) (z : Int32 × gMem), b_J0_isLatin1_aae02_18 Z M s0 = some z → (fun (r : Int32 × gMem) => Q = gMQ below D cy B H0 args s 0 0 (some (vI r.1)) r.2) z → gGo p l e rJ0_isLatin1_aae02 s m args below meth c D cy B H0 1 0 0 Q 18 [] [vI s0] M := sorry

set_option maxHeartbeats 4000000 in
set_option maxRecDepth 100000 in
theorem t_J0_isLatin1_aae02_17 (X : gX p s m args meth c D cy B (gSt Z B H0) RJ0 cJ0_isLatin1_aae02 wsJ0_isLatin1_aae02 1) (hr : meth.sig.returnType = (some .boolean)) {Q : State → Prop} : ∀ (M : gMem)  (z : Int32 × gMem), b_J0_isLatin1_aae02_17 Z M  = some z → (fun (r : Int32 × gMem) => Q = gMQ below D cy B H0 args s 0 0 (some (vI r.1)) r.2) z → gGo p l e rJ0_isLatin1_aae02 s m args below meth c D cy B H0 1 0 0 Q 17 [] [] M := sorry

set_option maxHeartbeats 4000000 in
set_option maxRecDepth 100000 in
theorem t_J0_isLatin1_aae02_0 (X : gX p s m args meth c D cy B (gSt Z B H0) RJ0 cJ0_isLatin1_aae02 wsJ0_isLatin1_aae02 1) (hr : meth.sig.returnType = (some .boolean)) {Q : State → Prop} : ∀ (M : gMem) (x0 : Nat) (z : Int32 × gMem), b_J0_isLatin1_aae02_0 Z M x0 = some z → (fun (r : Int32 × gMem) => Q = gMQ below D cy B H0 args s 0 0 (some (vI r.1)) r.2) z → gGo p l e rJ0_isLatin1_aae02 s m args below meth c D cy B H0 1 0 0 Q 0 [(0, vR (some (Z (100 + x0))))] [] M := sorry

set_option maxHeartbeats 4000000 in
set_option maxRecDepth 100000 in
theorem m_J0_isLatin1_aae02 (l : Launch) {D : va_G} {cy : Nat → ClassId} {B : Nat} {H0 : Heap} {Z : Nat → Nat} {M M1 : gMem} {x0 : Nat} {r : Int32} (hf : f_J0_isLatin1_aae02 Z M x0 = some (r, M1)) : Met l yJ0_isLatin1_aae02 wsJ0_isLatin1_aae02 rJ0_isLatin1_aae02 (va_Pc (Value.ref (Z (100 + x0)) :: List.map gv []) (gPre D cy B H0 (gSt Z B H0) M)) (gQ D cy B H0 (some (vI r)) M1) 0 0 (gA B) := sorry

/-! ## jdk/internal/util/Preconditions.checkIndex(IILjava/util/function/BiFunction;)I -/
abbrev rJ3_checkIndex_8e157 : Room := { frames := 0, cells := 0, slots := 0, locals := 0 }
noncomputable def b_J3_checkIndex_8e157_9 (M : gMem) (x2 : Option Nat) : Option (Int32 × gMem) :=
  none
noncomputable def b_J3_checkIndex_8e157_0 (M : gMem) (x0 : Int32) (x1 : Int32) (x2 : Option Nat) : Option (Int32 × gMem) :=
  (if x0 < 0 then none else (if x0 < x1 then some (x0, M) else none))
noncomputable def f_J3_checkIndex_8e157 (M : gMem) (x0 : Int32) (x1 : Int32) (x2 : Option Nat) : Option (Int32 × gMem) :=
  b_J3_checkIndex_8e157_0 M x0 x1 x2
set_option maxHeartbeats 4000000 in
set_option maxRecDepth 100000 in
theorem t_J3_checkIndex_8e157_9 (X : gX p s m args meth c D cy B (gSt Z B H0) RJ3 cJ3_checkIndex_8e157 wsJ3_checkIndex_8e157 3) (hr : meth.sig.returnType = (some .int)) {Q : State → Prop} : ∀ (M : gMem) (x2 : Option Nat) (z : Int32 × gMem), b_J3_checkIndex_8e157_9 M x2 = some z → (fun (r : Int32 × gMem) => Q = gMQ below D cy B H0 args s 0 0 (some (vI r.1)) r.2) z → gGo p l e rJ3_checkIndex_8e157 s m args below meth c D cy B H0 3 0 0 Q 9 [(2, vR x2)] [] M := sorry

set_option maxHeartbeats 4000000 in
set_option maxRecDepth 100000 in
theorem t_J3_checkIndex_8e157_0 (X : gX p s m args meth c D cy B (gSt Z B H0) RJ3 cJ3_checkIndex_8e157 wsJ3_checkIndex_8e157 3) (hr : meth.sig.returnType = (some .int)) {Q : State → Prop} : ∀ (M : gMem) (x0 : Int32) (x1 : Int32) (x2 : Option Nat) (z : Int32 × gMem), b_J3_checkIndex_8e157_0 M x0 x1 x2 = some z → (fun (r : Int32 × gMem) => Q = gMQ below D cy B H0 args s 0 0 (some (vI r.1)) r.2) z → gGo p l e rJ3_checkIndex_8e157 s m args below meth c D cy B H0 3 0 0 Q 0 [(0, vI x0), (1, vI x1), (2, vR x2)] [] M := sorry

set_option maxHeartbeats 4000000 in
set_option maxRecDepth 100000 in
theorem m_J3_checkIndex_8e157 (l : Launch) {D : va_G} {cy : Nat → ClassId} {B : Nat} {H0 : Heap} {Z : Nat → Nat} {M M1 : gMem} {x0 : Int32} {x1 : Int32} {x2 : Option Nat} {r : Int32} (hf : f_J3_checkIndex_8e157 M x0 x1 x2 = some (r, M1)) : Met l yJ3_checkIndex_8e157 wsJ3_checkIndex_8e157 rJ3_checkIndex_8e157 (va_Pc (List.map gv [vI x0, vI x1, vR x2]) (gPre D cy B H0 (gSt Z B H0) M)) (gQ D cy B H0 (some (vI r)) M1) 0 0 (gA B) := sorry

/-! ## java/lang/String.checkIndex(II)V -/
set_option maxRecDepth 20000 in
set_option maxRecDepth 20000 in
theorem gJ0_checkIndex_df160_J3_checkIndex_8e157 : GoodIn wsJ0_checkIndex_df160 (va_wsS RJ0 1059 yJ3_checkIndex_8e157 wsJ3_checkIndex_8e157) := sorry

abbrev rJ0_checkIndex_df160 : Room := { frames := 1, cells := 0, slots := 0, locals := 22 }
noncomputable def b_J0_checkIndex_df160_0 (Z : Nat → Nat) (M : gMem) (x0 : Int32) (x1 : Int32) : Option (Unit × gMem) :=
  bd (f_J3_checkIndex_8e157 M x0 x1 ((zopt (Z 48)))) fun r1 M1 => some ((), M1)
noncomputable def f_J0_checkIndex_df160 (Z : Nat → Nat) (M : gMem) (x0 : Int32) (x1 : Int32) : Option (Unit × gMem) :=
  b_J0_checkIndex_df160_0 Z M x0 x1
set_option maxHeartbeats 4000000 in
set_option maxRecDepth 100000 in
theorem t_J0_checkIndex_df160_0 (X : gX p s m args meth c D cy B (gSt Z B H0) RJ0 cJ0_checkIndex_df160 wsJ0_checkIndex_df160 2) (hr : meth.sig.returnType = none) {Q : State → Prop} : ∀ (M : gMem) (x0 : Int32) (x1 : Int32) (z : Unit × gMem), b_J0_checkIndex_df160_0 Z M x0 x1 = some z → (fun (r : Unit × gMem) => Q = gMQ below D cy B H0 args s 0 0 none r.2) z → gGo p l e rJ0_checkIndex_df160 s m args below meth c D cy B H0 2 0 0 Q 0 [(0, vI x0), (1, vI x1)] [] M := sorry

set_option maxHeartbeats 4000000 in
set_option maxRecDepth 100000 in
theorem m_J0_checkIndex_df160 (l : Launch) {D : va_G} {cy : Nat → ClassId} {B : Nat} {H0 : Heap} {Z : Nat → Nat} {M M1 : gMem} {x0 : Int32} {x1 : Int32} {r : Unit} (hf : f_J0_checkIndex_df160 Z M x0 x1 = some (r, M1)) : Met l yJ0_checkIndex_df160 wsJ0_checkIndex_df160 rJ0_checkIndex_df160 (va_Pc (List.map gv [vI x0, vI x1]) (gPre D cy B H0 (gSt Z B H0) M)) (gQ D cy B H0 none M1) 0 0 (gA B) := sorry

/-! ## java/lang/StringLatin1.charAt([BI)C -/
set_option maxRecDepth 20000 in
set_option maxRecDepth 20000 in
theorem gJ1_charAt_3b067_J0_checkIndex_df160 : GoodIn wsJ1_charAt_3b067 (va_wsS RJ1 9 yJ0_checkIndex_df160 wsJ0_checkIndex_df160) := sorry

abbrev rJ1_charAt_3b067 : Room := { frames := 2, cells := 0, slots := 0, locals := 43 }
noncomputable def b_J1_charAt_3b067_0 (Z : Nat → Nat) (M : gMem) (x0 : Nat) (x1 : Int32) : Option (Int32 × gMem) :=
  ck (x0 < 94) <| bd (f_J0_checkIndex_df160 Z M x1 ((Int32.ofNat (sLn x0)))) fun _ M2 => ck (inb x1 (sLn x0)) <| ck (i2cV ((i2cV (((sBy x0 x1.toNatClampNeg) &&& (255 : Int32))))) = (i2cV (((sBy x0 x1.toNatClampNeg) &&& (255 : Int32))))) <| some ((i2cV (((sBy x0 x1.toNatClampNeg) &&& (255 : Int32)))), M2)
noncomputable def f_J1_charAt_3b067 (Z : Nat → Nat) (M : gMem) (x0 : Nat) (x1 : Int32) : Option (Int32 × gMem) :=
  b_J1_charAt_3b067_0 Z M x0 x1
set_option maxHeartbeats 4000000 in
set_option maxRecDepth 100000 in
theorem t_J1_charAt_3b067_0 (X : gX p s m args meth c D cy B (gSt Z B H0) RJ1 cJ1_charAt_3b067 wsJ1_charAt_3b067 2) (hr : meth.sig.returnType = (some .char)) {Q : State → Prop} : ∀ (M : gMem) (x0 : Nat) (x1 : Int32) (z : Int32 × gMem), b_J1_charAt_3b067_0 Z M x0 x1 = some z → (fun (r : Int32 × gMem) => Q = gMQ below D cy B H0 args s 0 0 (some (vI r.1)) r.2) z → gGo p l e rJ1_charAt_3b067 s m args below meth c D cy B H0 2 0 0 Q 0 [(0, vR (some (Z (300 + x0)))), (1, vI x1)] [] M := sorry

set_option maxHeartbeats 4000000 in
set_option maxRecDepth 100000 in
theorem m_J1_charAt_3b067 (l : Launch) {D : va_G} {cy : Nat → ClassId} {B : Nat} {H0 : Heap} {Z : Nat → Nat} {M M1 : gMem} {x0 : Nat} {x1 : Int32} {r : Int32} (hf : f_J1_charAt_3b067 Z M x0 x1 = some (r, M1)) : Met l yJ1_charAt_3b067 wsJ1_charAt_3b067 rJ1_charAt_3b067 (va_Pc (List.map gv [vR (some (Z (300 + x0))), vI x1]) (gPre D cy B H0 (gSt Z B H0) M)) (gQ D cy B H0 (some (vI r)) M1) 0 0 (gA B) := sorry

/-! ## java/lang/String.charAt(I)C -/
set_option maxRecDepth 20000 in
set_option maxRecDepth 20000 in
theorem gJ0_charAt_5068e_J0_isLatin1_aae02 : GoodIn wsJ0_charAt_5068e (wsV RJ0 492 RJ0 yJ0_isLatin1_aae02 wsJ0_isLatin1_aae02) := sorry

set_option maxRecDepth 20000 in
set_option maxRecDepth 20000 in
theorem gJ0_charAt_5068e_J1_charAt_3b067 : GoodIn wsJ0_charAt_5068e (va_wsS RJ0 495 yJ1_charAt_3b067 wsJ1_charAt_3b067) := sorry

abbrev rJ0_charAt_5068e : Room := { frames := 3, cells := 0, slots := 0, locals := 64 }
noncomputable def b_J0_charAt_5068e_0 (Z : Nat → Nat) (M : gMem) (x0 : Nat) (x1 : Int32) : Option (Int32 × gMem) :=
  ck (x0 < 94) <| bd (f_J0_isLatin1_aae02 Z M x0) fun r1 M1 => (if r1 = 0 then none else bd (f_J1_charAt_3b067 Z M1 x0 x1) fun r3 M3 => ck (i2cV r3 = r3) <| some (r3, M3))
noncomputable def f_J0_charAt_5068e (Z : Nat → Nat) (M : gMem) (x0 : Nat) (x1 : Int32) : Option (Int32 × gMem) :=
  b_J0_charAt_5068e_0 Z M x0 x1
set_option maxHeartbeats 4000000 in
set_option maxRecDepth 100000 in
theorem t_J0_charAt_5068e_0 (X : gX p s m args meth c D cy B (gSt Z B H0) RJ0 cJ0_charAt_5068e wsJ0_charAt_5068e 2) (hr : meth.sig.returnType = (some .char)) {Q : State → Prop} : ∀ (M : gMem) (x0 : Nat) (x1 : Int32) (z : Int32 × gMem), b_J0_charAt_5068e_0 Z M x0 x1 = some z → (fun (r : Int32 × gMem) => Q = gMQ below D cy B H0 args s 0 0 (some (vI r.1)) r.2) z → gGo p l e rJ0_charAt_5068e s m args below meth c D cy B H0 2 0 0 Q 0 [(0, vR (some (Z (100 + x0)))), (1, vI x1)] [] M := sorry

set_option maxHeartbeats 4000000 in
set_option maxRecDepth 100000 in
theorem m_J0_charAt_5068e (l : Launch) {D : va_G} {cy : Nat → ClassId} {B : Nat} {H0 : Heap} {Z : Nat → Nat} {M M1 : gMem} {x0 : Nat} {x1 : Int32} {r : Int32} (hf : f_J0_charAt_5068e Z M x0 x1 = some (r, M1)) : Met l yJ0_charAt_5068e wsJ0_charAt_5068e rJ0_charAt_5068e (va_Pc (Value.ref (Z (100 + x0)) :: List.map gv [vI x1]) (gPre D cy B H0 (gSt Z B H0) M)) (gQ D cy B H0 (some (vI r)) M1) 0 0 (gA B) := sorry

end
