section
variable {p : Program} {l : Launch} {e : Env} {s : State} {m : MethodId} {args : Array Value} {below : List Frame} {meth : Method} {c : Code} {D : va_G} {cy : Nat → ClassId} {B : Nat} {H0 : Heap} {Z : Nat → Nat}
/-! ## TideLots$Names.<init>(I)V -/
theorem i_X4_init_X4 : ∀ w ∈ u_ws RX4 TX4 2, w ∈ wsX4_init := sorry

abbrev rX4_init : Room := { frames := 1, cells := 1, slots := 8, locals := 14 }
noncomputable def b_X4_init_0 (M : gMem) (x0 : Nat) (x1 : Int32) : Option (Unit × gMem) :=
  ck (¬ (imax x1 ((0 : Int32))) < 0) <| ck (((imax x1 ((0 : Int32)))).toNatClampNeg ≤ 8) <| lw (nW M 21 ((imax x1 ((0 : Int32)))).toNatClampNeg) fun M3 => ck (mT M3 x0 = 4) <| lw (wR M3 x0 0 ((some (mN M)))) fun M5 => some ((), M5)
noncomputable def f_X4_init (M : gMem) (x0 : Nat) (x1 : Int32) : Option (Unit × gMem) :=
  b_X4_init_0 M x0 x1
set_option maxHeartbeats 4000000 in
set_option maxRecDepth 100000 in
theorem t_X4_init_0 (X : gX p s m args meth c D cy B (gSt Z B H0) RX4 cX4_init wsX4_init 2) (hr : meth.sig.returnType = none) (hin : meth.name = "<init>") {Q : State → Prop} : ∀ (M : gMem) (x0 : Nat) (x1 : Int32) (z : Unit × gMem), b_X4_init_0 M x0 x1 = some z → (fun (r : Unit × gMem) => Q = gMQ below D cy B H0 args s 1 8 none r.2) z → gGo p l e rX4_init s m args below meth c D cy B H0 2 0 0 Q 0 [(0, vR (some x0)), (1, vI x1)] [] M := sorry

set_option maxHeartbeats 4000000 in
set_option maxRecDepth 100000 in
theorem m_X4_init (l : Launch) {D : va_G} {cy : Nat → ClassId} {B : Nat} {H0 : Heap} {Z : Nat → Nat} {M M1 : gMem} {x0 : Nat} {x1 : Int32} {r : Unit} (hf : f_X4_init M x0 x1 = some (r, M1)) : Met l yX4_init wsX4_init rX4_init (va_Pc (Value.ref x0 :: List.map gv [vI x1]) (gPre D cy B H0 (gSt Z B H0) M)) (gQ D cy B H0 none M1) 1 8 (gA B) := sorry

/-! ## TideLots$Fisher.<init>()V -/
theorem i_X1_init_X1 : ∀ w ∈ u_ws RX1 TX1 11, w ∈ wsX1_init := sorry

abbrev rX1_init : Room := { frames := 1, cells := 1, slots := 8, locals := 12 }
noncomputable def b_X1_init_0 (M : gMem) (x0 : Nat) : Option (Unit × gMem) :=
  ck (mT M x0 = 1) <| lw (wI M x0 6 ((-1 : Int32))) fun M2 => lw (nW M2 20 ((8 : Int32)).toNatClampNeg) fun M4 => ck (mT M4 x0 = 1) <| lw (wR M4 x0 10 ((some (mN M2)))) fun M6 => some ((), M6)
noncomputable def f_X1_init (M : gMem) (x0 : Nat) : Option (Unit × gMem) :=
  b_X1_init_0 M x0
set_option maxHeartbeats 4000000 in
set_option maxRecDepth 100000 in
theorem t_X1_init_0 (X : gX p s m args meth c D cy B (gSt Z B H0) RX1 cX1_init wsX1_init 1) (hr : meth.sig.returnType = none) (hin : meth.name = "<init>") {Q : State → Prop} : ∀ (M : gMem) (x0 : Nat) (z : Unit × gMem), b_X1_init_0 M x0 = some z → (fun (r : Unit × gMem) => Q = gMQ below D cy B H0 args s 1 8 none r.2) z → gGo p l e rX1_init s m args below meth c D cy B H0 1 0 0 Q 0 [(0, vR (some x0))] [] M := sorry

set_option maxHeartbeats 4000000 in
set_option maxRecDepth 100000 in
theorem m_X1_init (l : Launch) {D : va_G} {cy : Nat → ClassId} {B : Nat} {H0 : Heap} {Z : Nat → Nat} {M M1 : gMem} {x0 : Nat} {r : Unit} (hf : f_X1_init M x0 = some (r, M1)) : Met l yX1_init wsX1_init rX1_init (va_Pc (Value.ref x0 :: List.map gv []) (gPre D cy B H0 (gSt Z B H0) M)) (gQ D cy B H0 none M1) 1 8 (gA B) := sorry

/-! ## TideLots$Go.<init>()V -/
abbrev rX2_init : Room := { frames := 1, cells := 0, slots := 0, locals := 12 }
noncomputable def b_X2_init_0 (M : gMem) (x0 : Nat) : Option (Unit × gMem) :=
  some ((), M)
noncomputable def f_X2_init (M : gMem) (x0 : Nat) : Option (Unit × gMem) :=
  b_X2_init_0 M x0
set_option maxHeartbeats 4000000 in
set_option maxRecDepth 100000 in
theorem t_X2_init_0 (X : gX p s m args meth c D cy B (gSt Z B H0) RX2 cX2_init wsX2_init 1) (hr : meth.sig.returnType = none) (hin : meth.name = "<init>") {Q : State → Prop} : ∀ (M : gMem) (x0 : Nat) (z : Unit × gMem), b_X2_init_0 M x0 = some z → (fun (r : Unit × gMem) => Q = gMQ below D cy B H0 args s 0 0 none r.2) z → gGo p l e rX2_init s m args below meth c D cy B H0 1 0 0 Q 0 [(0, vR (some x0))] [] M := sorry

set_option maxHeartbeats 4000000 in
set_option maxRecDepth 100000 in
theorem m_X2_init (l : Launch) {D : va_G} {cy : Nat → ClassId} {B : Nat} {H0 : Heap} {Z : Nat → Nat} {M M1 : gMem} {x0 : Nat} {r : Unit} (hf : f_X2_init M x0 = some (r, M1)) : Met l yX2_init wsX2_init rX2_init (va_Pc (Value.ref x0 :: List.map gv []) (gPre D cy B H0 (gSt Z B H0) M)) (gQ D cy B H0 none M1) 0 0 (gA B) := sorry

/-! ## TideLots$Ground.<init>()V -/
theorem i_X3_init_X3 : ∀ w ∈ u_ws RX3 TX3 4, w ∈ wsX3_init := sorry

abbrev rX3_init : Room := { frames := 1, cells := 1, slots := 6, locals := 12 }
noncomputable def b_X3_init_0 (M : gMem) (x0 : Nat) : Option (Unit × gMem) :=
  lw (nW M 20 ((6 : Int32)).toNatClampNeg) fun M1 => ck (mT M1 x0 = 3) <| lw (wR M1 x0 3 ((some (mN M)))) fun M3 => some ((), M3)
noncomputable def f_X3_init (M : gMem) (x0 : Nat) : Option (Unit × gMem) :=
  b_X3_init_0 M x0
set_option maxHeartbeats 4000000 in
set_option maxRecDepth 100000 in
theorem t_X3_init_0 (X : gX p s m args meth c D cy B (gSt Z B H0) RX3 cX3_init wsX3_init 1) (hr : meth.sig.returnType = none) (hin : meth.name = "<init>") {Q : State → Prop} : ∀ (M : gMem) (x0 : Nat) (z : Unit × gMem), b_X3_init_0 M x0 = some z → (fun (r : Unit × gMem) => Q = gMQ below D cy B H0 args s 1 6 none r.2) z → gGo p l e rX3_init s m args below meth c D cy B H0 1 0 0 Q 0 [(0, vR (some x0))] [] M := sorry

set_option maxHeartbeats 4000000 in
set_option maxRecDepth 100000 in
theorem m_X3_init (l : Launch) {D : va_G} {cy : Nat → ClassId} {B : Nat} {H0 : Heap} {Z : Nat → Nat} {M M1 : gMem} {x0 : Nat} {r : Unit} (hf : f_X3_init M x0 = some (r, M1)) : Met l yX3_init wsX3_init rX3_init (va_Pc (Value.ref x0 :: List.map gv []) (gPre D cy B H0 (gSt Z B H0) M)) (gQ D cy B H0 none M1) 1 6 (gA B) := sorry

/-! ## TideLots$Pact.<init>()V -/
theorem i_X5_init_X5 : ∀ w ∈ u_ws RX5 TX5 8, w ∈ wsX5_init := sorry

abbrev rX5_init : Room := { frames := 1, cells := 1, slots := 8, locals := 12 }
noncomputable def b_X5_init_0 (M : gMem) (x0 : Nat) : Option (Unit × gMem) :=
  ck (mT M x0 = 5) <| lw (wI M x0 0 ((-1 : Int32))) fun M2 => lw (nW M2 20 ((8 : Int32)).toNatClampNeg) fun M4 => ck (mT M4 x0 = 5) <| lw (wR M4 x0 4 ((some (mN M2)))) fun M6 => some ((), M6)
noncomputable def f_X5_init (M : gMem) (x0 : Nat) : Option (Unit × gMem) :=
  b_X5_init_0 M x0
set_option maxHeartbeats 4000000 in
set_option maxRecDepth 100000 in
theorem t_X5_init_0 (X : gX p s m args meth c D cy B (gSt Z B H0) RX5 cX5_init wsX5_init 1) (hr : meth.sig.returnType = none) (hin : meth.name = "<init>") {Q : State → Prop} : ∀ (M : gMem) (x0 : Nat) (z : Unit × gMem), b_X5_init_0 M x0 = some z → (fun (r : Unit × gMem) => Q = gMQ below D cy B H0 args s 1 8 none r.2) z → gGo p l e rX5_init s m args below meth c D cy B H0 1 0 0 Q 0 [(0, vR (some x0))] [] M := sorry

set_option maxHeartbeats 4000000 in
set_option maxRecDepth 100000 in
theorem m_X5_init (l : Launch) {D : va_G} {cy : Nat → ClassId} {B : Nat} {H0 : Heap} {Z : Nat → Nat} {M M1 : gMem} {x0 : Nat} {r : Unit} (hf : f_X5_init M x0 = some (r, M1)) : Met l yX5_init wsX5_init rX5_init (va_Pc (Value.ref x0 :: List.map gv []) (gPre D cy B H0 (gSt Z B H0) M)) (gQ D cy B H0 none M1) 1 8 (gA B) := sorry

/-! ## TideLots$Reader.<init>(LTideLots$Tape;LTideLots$Shore;)V -/
set_option maxRecDepth 20000 in
set_option maxRecDepth 20000 in
theorem gX6_init_X4_init : GoodIn wsX6_init (wsX4_init) := sorry

theorem i_X6_init_X6 : ∀ w ∈ u_ws RX6 TX6 9, w ∈ wsX6_init := sorry

theorem i_X6_init_X4 : ∀ w ∈ u_ws RX4 TX4 2, w ∈ wsX6_init := sorry

abbrev rX6_init : Room := { frames := 2, cells := 6, slots := 30, locals := 35 }
noncomputable def b_X6_init_0 (M : gMem) (x0 : Nat) (x1 : Option Nat) (x2 : Option Nat) : Option (Unit × gMem) :=
  ck (mT M x0 = 6) <| lw (wI M x0 0 ((-1 : Int32))) fun M2 => lw (nW M2 4 0) fun M4 => bd (f_X4_init M4 ((mN M2)) ((8 : Int32))) fun _ M5 => ck (mT M5 x0 = 6) <| lw (wR M5 x0 3 ((some (mN M2)))) fun M7 => lw (nW M7 4 0) fun M9 => bd (f_X4_init M9 ((mN M7)) ((8 : Int32))) fun _ M10 => ck (mT M10 x0 = 6) <| lw (wR M10 x0 4 ((some (mN M7)))) fun M12 => lw (nW M12 4 0) fun M14 => bd (f_X4_init M14 ((mN M12)) ((6 : Int32))) fun _ M15 => ck (mT M15 x0 = 6) <| lw (wR M15 x0 5 ((some (mN M12)))) fun M17 => lw (wR M17 x0 1 x1) fun M19 => lw (wR M19 x0 2 x2) fun M21 => some ((), M21)
noncomputable def f_X6_init (M : gMem) (x0 : Nat) (x1 : Option Nat) (x2 : Option Nat) : Option (Unit × gMem) :=
  b_X6_init_0 M x0 x1 x2
set_option maxHeartbeats 4000000 in
set_option maxRecDepth 100000 in
theorem t_X6_init_0 (X : gX p s m args meth c D cy B (gSt Z B H0) RX6 cX6_init wsX6_init 3) (hr : meth.sig.returnType = none) (hin : meth.name = "<init>") {Q : State → Prop} : ∀ (M : gMem) (x0 : Nat) (x1 : Option Nat) (x2 : Option Nat) (z : Unit × gMem), b_X6_init_0 M x0 x1 x2 = some z → (fun (r : Unit × gMem) => Q = gMQ below D cy B H0 args s 6 30 none r.2) z → gGo p l e rX6_init s m args below meth c D cy B H0 3 0 0 Q 0 [(0, vR (some x0)), (1, vR x1), (2, vR x2)] [] M := sorry

set_option maxHeartbeats 4000000 in
set_option maxRecDepth 100000 in
theorem m_X6_init (l : Launch) {D : va_G} {cy : Nat → ClassId} {B : Nat} {H0 : Heap} {Z : Nat → Nat} {M M1 : gMem} {x0 : Nat} {x1 : Option Nat} {x2 : Option Nat} {r : Unit} (hf : f_X6_init M x0 x1 x2 = some (r, M1)) : Met l yX6_init wsX6_init rX6_init (va_Pc (Value.ref x0 :: List.map gv [vR x1, vR x2]) (gPre D cy B H0 (gSt Z B H0) M)) (gQ D cy B H0 none M1) 6 30 (gA B) := sorry

/-! ## TideLots$Sums.<init>()V -/
theorem i_X9_init_X9 : ∀ w ∈ u_ws RX9 TX9 4, w ∈ wsX9_init := sorry

abbrev rX9_init : Room := { frames := 1, cells := 3, slots := 1200, locals := 12 }
noncomputable def bb_X9_init_34 (Z : Nat → Nat) (M : gMem) (x0 : Nat) (x1 : Int32) : Option ((gMem × Int32) ⊕ (Unit × gMem)) :=
  ck (mT M x0 = 8) <| dr ((mR M x0 1)) fun a2 => ck (mT M a2 = 27) <| (if (Int32.ofNat (mL M a2)) ≤ x1 then oI (some ((), M)) else ck (inb x1 (mL M a2)) <| lw (wR M a2 x1.toNatClampNeg ((some (Z 41)))) fun M6 => some (.inl (M6, (x1 + (1 : Int32)))))
noncomputable def lp_X9_init_34 (Z : Nat → Nat) (M : gMem) (x0 : Nat) (x1 : Int32) : Option (Unit × gMem) :=
  lp (fun (q : gMem × Int32) => bb_X9_init_34 Z q.1 x0 q.2) (M, x1)
noncomputable def b_X9_init_0 (Z : Nat → Nat) (M : gMem) (x0 : Nat) : Option (Unit × gMem) :=
  lw (nW M 27 ((400 : Int32)).toNatClampNeg) fun M9 => ck (mT M9 x0 = 8) <| lw (wR M9 x0 1 ((some (mN M)))) fun M11 => lw (nW M11 20 ((400 : Int32)).toNatClampNeg) fun M13 => ck (mT M13 x0 = 8) <| lw (wR M13 x0 2 ((some (mN M11)))) fun M15 => lw (nW M15 20 ((400 : Int32)).toNatClampNeg) fun M17 => ck (mT M17 x0 = 8) <| lw (wR M17 x0 3 ((some (mN M15)))) fun M19 => lp_X9_init_34 Z M19 x0 ((0 : Int32))
noncomputable def f_X9_init (Z : Nat → Nat) (M : gMem) (x0 : Nat) : Option (Unit × gMem) :=
  b_X9_init_0 Z M x0
set_option maxHeartbeats 4000000 in
set_option maxRecDepth 100000 in
set_option maxHeartbeats 4000000 in
set_option maxRecDepth 100000 in
set_option maxHeartbeats 4000000 in
set_option maxRecDepth 100000 in
theorem t_X9_init_0 (X2 : gX p s m args meth c D cy B (gSt2 Z B H0) RX9 cX9_init wsX9_init 2) (hr : meth.sig.returnType = none) (hin : meth.name = "<init>") {Q : State → Prop} : ∀ (M : gMem) (x0 : Nat) (z : Unit × gMem), b_X9_init_0 Z M x0 = some z → (fun (r : Unit × gMem) => Q = gMQ below D cy B H0 args s 3 1200 none r.2) z → gGo p l e rX9_init s m args below meth c D cy B H0 2 0 0 Q 0 [(0, vR (some x0))] [] M := sorry

set_option maxHeartbeats 4000000 in
set_option maxRecDepth 100000 in
theorem m_X9_init (l : Launch) {D : va_G} {cy : Nat → ClassId} {B : Nat} {H0 : Heap} {Z : Nat → Nat} {M M1 : gMem} {x0 : Nat} {r : Unit} (hf : f_X9_init Z M x0 = some (r, M1)) : Met l yX9_init wsX9_init rX9_init (va_Pc (Value.ref x0 :: List.map gv []) (gPre D cy B H0 (gSt2 Z B H0) M)) (gQ D cy B H0 none M1) 3 1200 (gA B) := sorry

/-! ## TideLots$Tape.<init>()V -/
theorem i_X10_init_X10 : ∀ w ∈ u_ws RX10 TX10 6, w ∈ wsX10_init := sorry

abbrev rX10_init : Room := { frames := 1, cells := 4, slots := 3203, locals := 12 }
noncomputable def bb_X10_init_43 (Z : Nat → Nat) (M : gMem) (x0 : Nat) (x1 : Int32) : Option ((gMem × Int32) ⊕ (Unit × gMem)) :=
  ck (mT M x0 = 9) <| dr ((mR M x0 2)) fun a2 => ck (mT M a2 = 27) <| (if (Int32.ofNat (mL M a2)) ≤ x1 then oI (some ((), M)) else ck (inb x1 (mL M a2)) <| lw (wR M a2 x1.toNatClampNeg ((some (Z 42)))) fun M6 => some (.inl (M6, (x1 + (1 : Int32)))))
noncomputable def lp_X10_init_43 (Z : Nat → Nat) (M : gMem) (x0 : Nat) (x1 : Int32) : Option (Unit × gMem) :=
  lp (fun (q : gMem × Int32) => bb_X10_init_43 Z q.1 x0 q.2) (M, x1)
noncomputable def b_X10_init_0 (Z : Nat → Nat) (M : gMem) (x0 : Nat) : Option (Unit × gMem) :=
  lw (nW M 22 ((2000 : Int32)).toNatClampNeg) fun M9 => ck (mT M9 x0 = 9) <| lw (wR M9 x0 1 ((some (mN M)))) fun M11 => lw (nW M11 27 ((401 : Int32)).toNatClampNeg) fun M13 => ck (mT M13 x0 = 9) <| lw (wR M13 x0 2 ((some (mN M11)))) fun M15 => lw (nW M15 20 ((401 : Int32)).toNatClampNeg) fun M17 => ck (mT M17 x0 = 9) <| lw (wR M17 x0 3 ((some (mN M15)))) fun M19 => lw (nW M19 21 ((401 : Int32)).toNatClampNeg) fun M21 => ck (mT M21 x0 = 9) <| lw (wR M21 x0 4 ((some (mN M19)))) fun M23 => lp_X10_init_43 Z M23 x0 ((0 : Int32))
noncomputable def f_X10_init (Z : Nat → Nat) (M : gMem) (x0 : Nat) : Option (Unit × gMem) :=
  b_X10_init_0 Z M x0
set_option maxHeartbeats 4000000 in
set_option maxRecDepth 100000 in
set_option maxHeartbeats 4000000 in
set_option maxRecDepth 100000 in
set_option maxHeartbeats 4000000 in
set_option maxRecDepth 100000 in
theorem t_X10_init_0 (X2 : gX p s m args meth c D cy B (gSt2 Z B H0) RX10 cX10_init wsX10_init 2) (hr : meth.sig.returnType = none) (hin : meth.name = "<init>") {Q : State → Prop} : ∀ (M : gMem) (x0 : Nat) (z : Unit × gMem), b_X10_init_0 Z M x0 = some z → (fun (r : Unit × gMem) => Q = gMQ below D cy B H0 args s 4 3203 none r.2) z → gGo p l e rX10_init s m args below meth c D cy B H0 2 0 0 Q 0 [(0, vR (some x0))] [] M := sorry

set_option maxHeartbeats 4000000 in
set_option maxRecDepth 100000 in
theorem m_X10_init (l : Launch) {D : va_G} {cy : Nat → ClassId} {B : Nat} {H0 : Heap} {Z : Nat → Nat} {M M1 : gMem} {x0 : Nat} {r : Unit} (hf : f_X10_init Z M x0 = some (r, M1)) : Met l yX10_init wsX10_init rX10_init (va_Pc (Value.ref x0 :: List.map gv []) (gPre D cy B H0 (gSt2 Z B H0) M)) (gQ D cy B H0 none M1) 4 3203 (gA B) := sorry

end
