section
variable {p : Program} {l : Launch} {e : Env} {s : State} {m : MethodId} {args : Array Value} {below : List Frame} {meth : Method} {c : Code} {D : va_G} {cy : Nat → ClassId} {B : Nat} {H0 : Heap} {Z : Nat → Nat}
/-! ## TideLots.checkGround(I)V -/
theorem i_X11_checkGround_n_X11 : ∀ w ∈ u_ws RX11 TX11 4, w ∈ wsX11_checkGround := sorry

theorem i_X11_checkGround_n_X7 : ∀ w ∈ u_ws RX7 TX7 17, w ∈ wsX11_checkGround := sorry

abbrev rX11_checkGround_n : Room := { frames := 0, cells := 0, slots := 0, locals := 0 }
noncomputable def b_X11_checkGround_n_15 (M : gMem)  : Option (Unit × gMem) :=
  none
noncomputable def b_X11_checkGround_n_0 (M : gMem) (x0 : Nat) (x1 : Int32) : Option (Unit × gMem) :=
  (if x1 < 0 then none else ck (mT M x0 = 10) <| dr ((mR M x0 1)) fun a2 => ck (mT M a2 = 7) <| (if x1 < (mI M a2 2) then some ((), M) else none))
noncomputable def f_X11_checkGround_n (M : gMem) (x0 : Nat) (x1 : Int32) : Option (Unit × gMem) :=
  b_X11_checkGround_n_0 M x0 x1
set_option maxHeartbeats 4000000 in
set_option maxRecDepth 100000 in
theorem t_X11_checkGround_n_15 (X : gX p s m args meth c D cy B (gSt Z B H0) RX11 cX11_checkGround wsX11_checkGround 2) (hr : meth.sig.returnType = none) {Q : State → Prop} : ∀ (M : gMem)  (z : Unit × gMem), b_X11_checkGround_n_15 M  = some z → (fun (r : Unit × gMem) => Q = gMQ below D cy B H0 args s 0 0 none r.2) z → gGo p l e rX11_checkGround_n s m args below meth c D cy B H0 2 0 0 Q 15 [] [] M := sorry

set_option maxHeartbeats 4000000 in
set_option maxRecDepth 100000 in
theorem t_X11_checkGround_n_0 (X : gX p s m args meth c D cy B (gSt Z B H0) RX11 cX11_checkGround wsX11_checkGround 2) (hr : meth.sig.returnType = none) {Q : State → Prop} : ∀ (M : gMem) (x0 : Nat) (x1 : Int32) (z : Unit × gMem), b_X11_checkGround_n_0 M x0 x1 = some z → (fun (r : Unit × gMem) => Q = gMQ below D cy B H0 args s 0 0 none r.2) z → gGo p l e rX11_checkGround_n s m args below meth c D cy B H0 2 0 0 Q 0 [(0, vR (some x0)), (1, vI x1)] [] M := sorry

set_option maxHeartbeats 4000000 in
set_option maxRecDepth 100000 in
theorem m_X11_checkGround_n (l : Launch) {D : va_G} {cy : Nat → ClassId} {B : Nat} {H0 : Heap} {Z : Nat → Nat} {M M1 : gMem} {x0 : Nat} {x1 : Int32} {r : Unit} (hf : f_X11_checkGround_n M x0 x1 = some (r, M1)) : Met l yX11_checkGround wsX11_checkGround rX11_checkGround_n (va_Pc (Value.ref x0 :: List.map gv [vI x1]) (gPre D cy B H0 (gSt Z B H0) M)) (gQ D cy B H0 none M1) 0 0 (gA B) := sorry

/-! ## TideLots.checkFisher(I)V -/
theorem i_X11_checkFisher_n_X11 : ∀ w ∈ u_ws RX11 TX11 4, w ∈ wsX11_checkFisher := sorry

theorem i_X11_checkFisher_n_X7 : ∀ w ∈ u_ws RX7 TX7 17, w ∈ wsX11_checkFisher := sorry

abbrev rX11_checkFisher_n : Room := { frames := 0, cells := 0, slots := 0, locals := 0 }
noncomputable def b_X11_checkFisher_n_15 (M : gMem)  : Option (Unit × gMem) :=
  none
noncomputable def b_X11_checkFisher_n_0 (M : gMem) (x0 : Nat) (x1 : Int32) : Option (Unit × gMem) :=
  (if x1 < 0 then none else ck (mT M x0 = 10) <| dr ((mR M x0 1)) fun a2 => ck (mT M a2 = 7) <| (if x1 < (mI M a2 3) then some ((), M) else none))
noncomputable def f_X11_checkFisher_n (M : gMem) (x0 : Nat) (x1 : Int32) : Option (Unit × gMem) :=
  b_X11_checkFisher_n_0 M x0 x1
set_option maxHeartbeats 4000000 in
set_option maxRecDepth 100000 in
theorem t_X11_checkFisher_n_15 (X : gX p s m args meth c D cy B (gSt Z B H0) RX11 cX11_checkFisher wsX11_checkFisher 2) (hr : meth.sig.returnType = none) {Q : State → Prop} : ∀ (M : gMem)  (z : Unit × gMem), b_X11_checkFisher_n_15 M  = some z → (fun (r : Unit × gMem) => Q = gMQ below D cy B H0 args s 0 0 none r.2) z → gGo p l e rX11_checkFisher_n s m args below meth c D cy B H0 2 0 0 Q 15 [] [] M := sorry

set_option maxHeartbeats 4000000 in
set_option maxRecDepth 100000 in
theorem t_X11_checkFisher_n_0 (X : gX p s m args meth c D cy B (gSt Z B H0) RX11 cX11_checkFisher wsX11_checkFisher 2) (hr : meth.sig.returnType = none) {Q : State → Prop} : ∀ (M : gMem) (x0 : Nat) (x1 : Int32) (z : Unit × gMem), b_X11_checkFisher_n_0 M x0 x1 = some z → (fun (r : Unit × gMem) => Q = gMQ below D cy B H0 args s 0 0 none r.2) z → gGo p l e rX11_checkFisher_n s m args below meth c D cy B H0 2 0 0 Q 0 [(0, vR (some x0)), (1, vI x1)] [] M := sorry

set_option maxHeartbeats 4000000 in
set_option maxRecDepth 100000 in
theorem m_X11_checkFisher_n (l : Launch) {D : va_G} {cy : Nat → ClassId} {B : Nat} {H0 : Heap} {Z : Nat → Nat} {M M1 : gMem} {x0 : Nat} {x1 : Int32} {r : Unit} (hf : f_X11_checkFisher_n M x0 x1 = some (r, M1)) : Met l yX11_checkFisher wsX11_checkFisher rX11_checkFisher_n (va_Pc (Value.ref x0 :: List.map gv [vI x1]) (gPre D cy B H0 (gSt Z B H0) M)) (gQ D cy B H0 none M1) 0 0 (gA B) := sorry

/-! ## TideLots.count(I)I -/
theorem i_X11_count_n_X11 : ∀ w ∈ u_ws RX11 TX11 4, w ∈ wsX11_count := sorry

theorem i_X11_count_n_X7 : ∀ w ∈ u_ws RX7 TX7 17, w ∈ wsX11_count := sorry

theorem i_X11_count_n_X10 : ∀ w ∈ u_ws RX10 TX10 6, w ∈ wsX11_count := sorry

abbrev rX11_count_n : Room := { frames := 2, cells := 0, slots := 0, locals := 44 }
noncomputable def b_X11_count_n_0 (M : gMem) (x0 : Nat) (x1 : Int32) : Option (Int32 × gMem) :=
  (if x1 = (0 : Int32) then ck (mT M x0 = 10) <| dr ((mR M x0 1)) fun a3 => ck (mT M a3 = 7) <| some ((mI M a3 0), M) else (if x1 = (1 : Int32) then ck (mT M x0 = 10) <| dr ((mR M x0 1)) fun a7 => ck (mT M a7 = 7) <| some ((mI M a7 2), M) else (if x1 = (2 : Int32) then ck (mT M x0 = 10) <| dr ((mR M x0 1)) fun a11 => ck (mT M a11 = 7) <| some ((mI M a11 3), M) else (if x1 = (3 : Int32) then ck (mT M x0 = 10) <| dr ((mR M x0 1)) fun a15 => ck (mT M a15 = 7) <| some ((mI M a15 4), M) else (if x1 = (4 : Int32) then ck (mT M x0 = 10) <| dr ((mR M x0 1)) fun a19 => ck (mT M a19 = 7) <| some ((mI M a19 5), M) else (if x1 = (5 : Int32) then ck (mT M x0 = 10) <| dr ((mR M x0 1)) fun a24 => ck (mT M a24 = 7) <| bd (f_X7_allFish M a24) fun r23 M23 => some (r23, M23) else (if x1 = (6 : Int32) then ck (mT M x0 = 10) <| dr ((mR M x0 1)) fun a29 => ck (mT M a29 = 7) <| bd (f_X7_allStores M a29) fun r28 M28 => some (r28, M28) else (if x1 = (7 : Int32) then ck (mT M x0 = 10) <| dr ((mR M x0 1)) fun a34 => ck (mT M a34 = 7) <| bd (f_X7_widenedNets M a34) fun r33 M33 => some (r33, M33) else (if x1 = (8 : Int32) then ck (mT M x0 = 10) <| dr ((mR M x0 1)) fun a39 => ck (mT M a39 = 7) <| bd (f_X7_allCheats M a39) fun r38 M38 => some (r38, M38) else (if x1 = (9 : Int32) then ck (mT M x0 = 10) <| dr ((mR M x0 0)) fun a43 => ck (mT M a43 = 9) <| some ((mI M a43 0), M) else none))))))))))
noncomputable def f_X11_count_n (M : gMem) (x0 : Nat) (x1 : Int32) : Option (Int32 × gMem) :=
  b_X11_count_n_0 M x0 x1
set_option maxHeartbeats 4000000 in
set_option maxRecDepth 100000 in
theorem t_X11_count_n_0 (X : gX p s m args meth c D cy B (gSt Z B H0) RX11 cX11_count wsX11_count 2) (hr : meth.sig.returnType = (some .int)) {Q : State → Prop} : ∀ (M : gMem) (x0 : Nat) (x1 : Int32) (z : Int32 × gMem), b_X11_count_n_0 M x0 x1 = some z → (fun (r : Int32 × gMem) => Q = gMQ below D cy B H0 args s 0 0 (some (vI r.1)) r.2) z → gGo p l e rX11_count_n s m args below meth c D cy B H0 2 0 0 Q 0 [(0, vR (some x0)), (1, vI x1)] [] M := sorry

set_option maxHeartbeats 4000000 in
set_option maxRecDepth 100000 in
theorem m_X11_count_n (l : Launch) {D : va_G} {cy : Nat → ClassId} {B : Nat} {H0 : Heap} {Z : Nat → Nat} {M M1 : gMem} {x0 : Nat} {x1 : Int32} {r : Int32} (hf : f_X11_count_n M x0 x1 = some (r, M1)) : Met l yX11_count wsX11_count rX11_count_n (va_Pc (Value.ref x0 :: List.map gv [vI x1]) (gPre D cy B H0 (gSt Z B H0) M)) (gQ D cy B H0 (some (vI r)) M1) 0 0 (gA B) := sorry

/-! ## TideLots.ground(II)I -/
theorem i_X11_ground_n_X3 : ∀ w ∈ u_ws RX3 TX3 4, w ∈ wsX11_ground := sorry

theorem i_X11_ground_n_X11 : ∀ w ∈ u_ws RX11 TX11 4, w ∈ wsX11_ground := sorry

theorem i_X11_ground_n_X7 : ∀ w ∈ u_ws RX7 TX7 17, w ∈ wsX11_ground := sorry

abbrev rX11_ground_n : Room := { frames := 1, cells := 0, slots := 0, locals := 22 }
noncomputable def b_X11_ground_n_73 (M : gMem) (x2 : Int32) (x3 : Option Nat) : Option (Int32 × gMem) :=
  dr x3 fun a1 => ck (mT M a1 = 3) <| dr ((mR M a1 3)) fun a3 => ck (mT M a3 = 20) <| ck (inb x2 (mL M a3)) <| some ((mI M a3 x2.toNatClampNeg), M)
noncomputable def b_X11_ground_n_0 (M : gMem) (x0 : Nat) (x1 : Int32) (x2 : Int32) : Option (Int32 × gMem) :=
  ck (mT M x0 = 10) <| bd (f_X11_checkGround_n M x0 x1) fun _ M6 => ck (mT M6 x0 = 10) <| dr ((mR M6 x0 1)) fun a9 => ck (mT M6 a9 = 7) <| dr ((mR M6 a9 6)) fun a11 => ck (mT M6 a11 = 23) <| ck (inb x1 (mL M6 a11)) <| (if x2 = (0 : Int32) then dr ((mR M6 a11 x1.toNatClampNeg)) fun a16 => ck (mT M6 a16 = 3) <| bd (f_X3_allFish M6 a16) fun r15 M15 => some (r15, M15) else (if x2 = (1 : Int32) then b_X11_ground_n_73 M6 x2 ((mR M6 a11 x1.toNatClampNeg)) else (if x2 = (2 : Int32) then b_X11_ground_n_73 M6 x2 ((mR M6 a11 x1.toNatClampNeg)) else (if x2 = (3 : Int32) then b_X11_ground_n_73 M6 x2 ((mR M6 a11 x1.toNatClampNeg)) else (if x2 = (4 : Int32) then b_X11_ground_n_73 M6 x2 ((mR M6 a11 x1.toNatClampNeg)) else (if x2 = (5 : Int32) then b_X11_ground_n_73 M6 x2 ((mR M6 a11 x1.toNatClampNeg)) else (if x2 = (6 : Int32) then dr ((mR M6 a11 x1.toNatClampNeg)) fun a24 => ck (mT M6 a24 = 3) <| some ((mI M6 a24 0), M6) else (if x2 = (7 : Int32) then dr ((mR M6 a11 x1.toNatClampNeg)) fun a27 => ck (mT M6 a27 = 3) <| some ((mI M6 a27 1), M6) else (if x2 = (8 : Int32) then dr ((mR M6 a11 x1.toNatClampNeg)) fun a30 => ck (mT M6 a30 = 3) <| some ((mI M6 a30 2), M6) else none)))))))))
noncomputable def f_X11_ground_n (M : gMem) (x0 : Nat) (x1 : Int32) (x2 : Int32) : Option (Int32 × gMem) :=
  b_X11_ground_n_0 M x0 x1 x2
set_option maxHeartbeats 4000000 in
set_option maxRecDepth 100000 in
theorem t_X11_ground_n_73 (X : gX p s m args meth c D cy B (gSt Z B H0) RX11 cX11_ground wsX11_ground 4) (hr : meth.sig.returnType = (some .int)) {Q : State → Prop} : ∀ (M : gMem) (x2 : Int32) (x3 : Option Nat) (z : Int32 × gMem), b_X11_ground_n_73 M x2 x3 = some z → (fun (r : Int32 × gMem) => Q = gMQ below D cy B H0 args s 0 0 (some (vI r.1)) r.2) z → gGo p l e rX11_ground_n s m args below meth c D cy B H0 4 0 0 Q 73 [(2, vI x2), (3, vR x3)] [] M := sorry

set_option maxHeartbeats 4000000 in
set_option maxRecDepth 100000 in
theorem t_X11_ground_n_0 (X : gX p s m args meth c D cy B (gSt Z B H0) RX11 cX11_ground wsX11_ground 4) (hr : meth.sig.returnType = (some .int)) {Q : State → Prop} : ∀ (M : gMem) (x0 : Nat) (x1 : Int32) (x2 : Int32) (z : Int32 × gMem), b_X11_ground_n_0 M x0 x1 x2 = some z → (fun (r : Int32 × gMem) => Q = gMQ below D cy B H0 args s 0 0 (some (vI r.1)) r.2) z → gGo p l e rX11_ground_n s m args below meth c D cy B H0 4 0 0 Q 0 [(0, vR (some x0)), (1, vI x1), (2, vI x2)] [] M := sorry

set_option maxHeartbeats 4000000 in
set_option maxRecDepth 100000 in
theorem m_X11_ground_n (l : Launch) {D : va_G} {cy : Nat → ClassId} {B : Nat} {H0 : Heap} {Z : Nat → Nat} {M M1 : gMem} {x0 : Nat} {x1 : Int32} {x2 : Int32} {r : Int32} (hf : f_X11_ground_n M x0 x1 x2 = some (r, M1)) : Met l yX11_ground wsX11_ground rX11_ground_n (va_Pc (Value.ref x0 :: List.map gv [vI x1, vI x2]) (gPre D cy B H0 (gSt Z B H0) M)) (gQ D cy B H0 (some (vI r)) M1) 0 0 (gA B) := sorry

/-! ## TideLots.fisher(II)I -/
theorem i_X11_fisher_n_X11 : ∀ w ∈ u_ws RX11 TX11 4, w ∈ wsX11_fisher := sorry

theorem i_X11_fisher_n_X7 : ∀ w ∈ u_ws RX7 TX7 17, w ∈ wsX11_fisher := sorry

theorem i_X11_fisher_n_X1 : ∀ w ∈ u_ws RX1 TX1 11, w ∈ wsX11_fisher := sorry

abbrev rX11_fisher_n : Room := { frames := 1, cells := 0, slots := 0, locals := 21 }
noncomputable def b_X11_fisher_n_124 (M : gMem) (s0 : Int32) : Option (Int32 × gMem) :=
  some (s0, M)
noncomputable def b_X11_fisher_n_0 (M : gMem) (x0 : Nat) (x1 : Int32) (x2 : Int32) : Option (Int32 × gMem) :=
  ck (mT M x0 = 10) <| bd (f_X11_checkFisher_n M x0 x1) fun _ M1 => ck (mT M1 x0 = 10) <| dr ((mR M1 x0 1)) fun a4 => ck (mT M1 a4 = 7) <| dr ((mR M1 a4 7)) fun a6 => ck (mT M1 a6 = 24) <| ck (inb x1 (mL M1 a6)) <| (if x2 = (0 : Int32) then dr ((mR M1 a6 x1.toNatClampNeg)) fun a10 => ck (mT M1 a10 = 1) <| some ((mI M1 a10 1), M1) else (if x2 = (1 : Int32) then dr ((mR M1 a6 x1.toNatClampNeg)) fun a13 => ck (mT M1 a13 = 1) <| some ((mI M1 a13 0), M1) else (if x2 = (2 : Int32) then dr ((mR M1 a6 x1.toNatClampNeg)) fun a16 => ck (mT M1 a16 = 1) <| some ((mI M1 a16 2), M1) else (if x2 = (3 : Int32) then dr ((mR M1 a6 x1.toNatClampNeg)) fun a19 => ck (mT M1 a19 = 1) <| some ((mI M1 a19 3), M1) else (if x2 = (4 : Int32) then dr ((mR M1 a6 x1.toNatClampNeg)) fun a22 => ck (mT M1 a22 = 1) <| some ((mI M1 a22 4), M1) else (if x2 = (5 : Int32) then dr ((mR M1 a6 x1.toNatClampNeg)) fun a25 => ck (mT M1 a25 = 1) <| some ((mI M1 a25 5), M1) else (if x2 = (6 : Int32) then dr ((mR M1 a6 x1.toNatClampNeg)) fun a28 => ck (mT M1 a28 = 1) <| some ((mI M1 a28 6), M1) else (if x2 = (7 : Int32) then dr ((mR M1 a6 x1.toNatClampNeg)) fun a31 => ck (mT M1 a31 = 1) <| some ((mI M1 a31 7), M1) else (if x2 = (8 : Int32) then dr ((mR M1 a6 x1.toNatClampNeg)) fun a34 => ck (mT M1 a34 = 1) <| (if (mI M1 a34 9) = 0 then b_X11_fisher_n_124 M1 ((0 : Int32)) else b_X11_fisher_n_124 M1 ((1 : Int32))) else (if x2 = (9 : Int32) then dr ((mR M1 a6 x1.toNatClampNeg)) fun a37 => ck (mT M1 a37 = 1) <| some ((mI M1 a37 8), M1) else none))))))))))
noncomputable def f_X11_fisher_n (M : gMem) (x0 : Nat) (x1 : Int32) (x2 : Int32) : Option (Int32 × gMem) :=
  b_X11_fisher_n_0 M x0 x1 x2
set_option maxHeartbeats 4000000 in
set_option maxRecDepth 100000 in
theorem t_X11_fisher_n_124 (X : gX p s m args meth c D cy B (gSt Z B H0) RX11 cX11_fisher wsX11_fisher 4) (hr : meth.sig.returnType = (some .int)) {Q : State → Prop} : ∀ (M : gMem) (s0 : Int32) (z : Int32 × gMem), b_X11_fisher_n_124 M s0 = some z → (fun (r : Int32 × gMem) => Q = gMQ below D cy B H0 args s 0 0 (some (vI r.1)) r.2) z → gGo p l e rX11_fisher_n s m args below meth c D cy B H0 4 0 0 Q 124 [] [vI s0] M := sorry

set_option maxHeartbeats 4000000 in
set_option maxRecDepth 100000 in
theorem t_X11_fisher_n_0 (X : gX p s m args meth c D cy B (gSt Z B H0) RX11 cX11_fisher wsX11_fisher 4) (hr : meth.sig.returnType = (some .int)) {Q : State → Prop} : ∀ (M : gMem) (x0 : Nat) (x1 : Int32) (x2 : Int32) (z : Int32 × gMem), b_X11_fisher_n_0 M x0 x1 x2 = some z → (fun (r : Int32 × gMem) => Q = gMQ below D cy B H0 args s 0 0 (some (vI r.1)) r.2) z → gGo p l e rX11_fisher_n s m args below meth c D cy B H0 4 0 0 Q 0 [(0, vR (some x0)), (1, vI x1), (2, vI x2)] [] M := sorry

set_option maxHeartbeats 4000000 in
set_option maxRecDepth 100000 in
theorem m_X11_fisher_n (l : Launch) {D : va_G} {cy : Nat → ClassId} {B : Nat} {H0 : Heap} {Z : Nat → Nat} {M M1 : gMem} {x0 : Nat} {x1 : Int32} {x2 : Int32} {r : Int32} (hf : f_X11_fisher_n M x0 x1 x2 = some (r, M1)) : Met l yX11_fisher wsX11_fisher rX11_fisher_n (va_Pc (Value.ref x0 :: List.map gv [vI x1, vI x2]) (gPre D cy B H0 (gSt Z B H0) M)) (gQ D cy B H0 (some (vI r)) M1) 0 0 (gA B) := sorry

/-! ## TideLots.pact(II)I -/
theorem i_X11_pact_n_X11 : ∀ w ∈ u_ws RX11 TX11 4, w ∈ wsX11_pact := sorry

theorem i_X11_pact_n_X7 : ∀ w ∈ u_ws RX7 TX7 17, w ∈ wsX11_pact := sorry

theorem i_X11_pact_n_X5 : ∀ w ∈ u_ws RX5 TX5 8, w ∈ wsX11_pact := sorry

abbrev rX11_pact_n : Room := { frames := 1, cells := 0, slots := 0, locals := 20 }
noncomputable def b_X11_pact_n_92 (M : gMem) (s0 : Int32) : Option (Int32 × gMem) :=
  some (s0, M)
noncomputable def b_X11_pact_n_15 (M : gMem)  : Option (Int32 × gMem) :=
  none
noncomputable def b_X11_pact_n_0 (M : gMem) (x0 : Nat) (x1 : Int32) (x2 : Int32) : Option (Int32 × gMem) :=
  (if x1 < 0 then none else ck (mT M x0 = 10) <| dr ((mR M x0 1)) fun a2 => ck (mT M a2 = 7) <| (if x1 < (mI M a2 5) then dr ((mR M a2 9)) fun a4 => ck (mT M a4 = 26) <| ck (inb x1 (mL M a4)) <| (if x2 = (0 : Int32) then dr ((mR M a4 x1.toNatClampNeg)) fun a9 => ck (mT M a9 = 5) <| bd (f_X5_splits M a9) fun r8 M8 => (if r8 = 0 then b_X11_pact_n_92 M8 ((1 : Int32)) else b_X11_pact_n_92 M8 ((0 : Int32))) else (if x2 = (1 : Int32) then dr ((mR M a4 x1.toNatClampNeg)) fun a12 => ck (mT M a12 = 5) <| some ((mI M a12 0), M) else (if x2 = (2 : Int32) then dr ((mR M a4 x1.toNatClampNeg)) fun a15 => ck (mT M a15 = 5) <| some ((mI M a15 3), M) else (if x2 = (3 : Int32) then dr ((mR M a4 x1.toNatClampNeg)) fun a18 => ck (mT M a18 = 5) <| dr ((mR M a18 4)) fun a20 => ck (mT M a20 = 20) <| ck (inb (0 : Int32) (mL M a20)) <| some ((mI M a20 ((0 : Int32)).toNatClampNeg), M) else (if x2 = (4 : Int32) then dr ((mR M a4 x1.toNatClampNeg)) fun a24 => ck (mT M a24 = 5) <| some ((mI M a24 5), M) else (if x2 = (5 : Int32) then dr ((mR M a4 x1.toNatClampNeg)) fun a27 => ck (mT M a27 = 5) <| some ((mI M a27 6), M) else (if x2 = (6 : Int32) then dr ((mR M a4 x1.toNatClampNeg)) fun a30 => ck (mT M a30 = 5) <| some ((mI M a30 7), M) else none))))))) else none))
noncomputable def f_X11_pact_n (M : gMem) (x0 : Nat) (x1 : Int32) (x2 : Int32) : Option (Int32 × gMem) :=
  b_X11_pact_n_0 M x0 x1 x2
set_option maxHeartbeats 4000000 in
set_option maxRecDepth 100000 in
theorem t_X11_pact_n_92 (X : gX p s m args meth c D cy B (gSt Z B H0) RX11 cX11_pact wsX11_pact 4) (hr : meth.sig.returnType = (some .int)) {Q : State → Prop} : ∀ (M : gMem) (s0 : Int32) (z : Int32 × gMem), b_X11_pact_n_92 M s0 = some z → (fun (r : Int32 × gMem) => Q = gMQ below D cy B H0 args s 0 0 (some (vI r.1)) r.2) z → gGo p l e rX11_pact_n s m args below meth c D cy B H0 4 0 0 Q 92 [] [vI s0] M := sorry

set_option maxHeartbeats 4000000 in
set_option maxRecDepth 100000 in
theorem t_X11_pact_n_15 (X : gX p s m args meth c D cy B (gSt Z B H0) RX11 cX11_pact wsX11_pact 4) (hr : meth.sig.returnType = (some .int)) {Q : State → Prop} : ∀ (M : gMem)  (z : Int32 × gMem), b_X11_pact_n_15 M  = some z → (fun (r : Int32 × gMem) => Q = gMQ below D cy B H0 args s 0 0 (some (vI r.1)) r.2) z → gGo p l e rX11_pact_n s m args below meth c D cy B H0 4 0 0 Q 15 [] [] M := sorry

set_option maxHeartbeats 4000000 in
set_option maxRecDepth 100000 in
theorem t_X11_pact_n_0 (X : gX p s m args meth c D cy B (gSt Z B H0) RX11 cX11_pact wsX11_pact 4) (hr : meth.sig.returnType = (some .int)) {Q : State → Prop} : ∀ (M : gMem) (x0 : Nat) (x1 : Int32) (x2 : Int32) (z : Int32 × gMem), b_X11_pact_n_0 M x0 x1 x2 = some z → (fun (r : Int32 × gMem) => Q = gMQ below D cy B H0 args s 0 0 (some (vI r.1)) r.2) z → gGo p l e rX11_pact_n s m args below meth c D cy B H0 4 0 0 Q 0 [(0, vR (some x0)), (1, vI x1), (2, vI x2)] [] M := sorry

set_option maxHeartbeats 4000000 in
set_option maxRecDepth 100000 in
theorem m_X11_pact_n (l : Launch) {D : va_G} {cy : Nat → ClassId} {B : Nat} {H0 : Heap} {Z : Nat → Nat} {M M1 : gMem} {x0 : Nat} {x1 : Int32} {x2 : Int32} {r : Int32} (hf : f_X11_pact_n M x0 x1 x2 = some (r, M1)) : Met l yX11_pact wsX11_pact rX11_pact_n (va_Pc (Value.ref x0 :: List.map gv [vI x1, vI x2]) (gPre D cy B H0 (gSt Z B H0) M)) (gQ D cy B H0 (some (vI r)) M1) 0 0 (gA B) := sorry

/-! ## TideLots.took(II)I -/
theorem i_X11_took_n_X11 : ∀ w ∈ u_ws RX11 TX11 4, w ∈ wsX11_took := sorry

theorem i_X11_took_n_X7 : ∀ w ∈ u_ws RX7 TX7 17, w ∈ wsX11_took := sorry

theorem i_X11_took_n_X1 : ∀ w ∈ u_ws RX1 TX1 11, w ∈ wsX11_took := sorry

abbrev rX11_took_n : Room := { frames := 1, cells := 0, slots := 0, locals := 21 }
noncomputable def b_X11_took_n_0 (M : gMem) (x0 : Nat) (x1 : Int32) (x2 : Int32) : Option (Int32 × gMem) :=
  ck (mT M x0 = 10) <| bd (f_X11_checkGround_n M x0 x1) fun _ M1 => ck (mT M1 x0 = 10) <| bd (f_X11_checkFisher_n M1 x0 x2) fun _ M3 => ck (mT M3 x0 = 10) <| dr ((mR M3 x0 1)) fun a6 => ck (mT M3 a6 = 7) <| dr ((mR M3 a6 7)) fun a8 => ck (mT M3 a8 = 24) <| ck (inb x2 (mL M3 a8)) <| dr ((mR M3 a8 x2.toNatClampNeg)) fun a11 => ck (mT M3 a11 = 1) <| dr ((mR M3 a11 10)) fun a13 => ck (mT M3 a13 = 20) <| ck (inb x1 (mL M3 a13)) <| some ((mI M3 a13 x1.toNatClampNeg), M3)
noncomputable def f_X11_took_n (M : gMem) (x0 : Nat) (x1 : Int32) (x2 : Int32) : Option (Int32 × gMem) :=
  b_X11_took_n_0 M x0 x1 x2
set_option maxHeartbeats 4000000 in
set_option maxRecDepth 100000 in
theorem t_X11_took_n_0 (X : gX p s m args meth c D cy B (gSt Z B H0) RX11 cX11_took wsX11_took 3) (hr : meth.sig.returnType = (some .int)) {Q : State → Prop} : ∀ (M : gMem) (x0 : Nat) (x1 : Int32) (x2 : Int32) (z : Int32 × gMem), b_X11_took_n_0 M x0 x1 x2 = some z → (fun (r : Int32 × gMem) => Q = gMQ below D cy B H0 args s 0 0 (some (vI r.1)) r.2) z → gGo p l e rX11_took_n s m args below meth c D cy B H0 3 0 0 Q 0 [(0, vR (some x0)), (1, vI x1), (2, vI x2)] [] M := sorry

set_option maxHeartbeats 4000000 in
set_option maxRecDepth 100000 in
theorem m_X11_took_n (l : Launch) {D : va_G} {cy : Nat → ClassId} {B : Nat} {H0 : Heap} {Z : Nat → Nat} {M M1 : gMem} {x0 : Nat} {x1 : Int32} {x2 : Int32} {r : Int32} (hf : f_X11_took_n M x0 x1 x2 = some (r, M1)) : Met l yX11_took wsX11_took rX11_took_n (va_Pc (Value.ref x0 :: List.map gv [vI x1, vI x2]) (gPre D cy B H0 (gSt Z B H0) M)) (gQ D cy B H0 (some (vI r)) M1) 0 0 (gA B) := sorry

/-! ## TideLots.digest()J -/
set_option maxRecDepth 20000 in
set_option maxRecDepth 20000 in
theorem gX11_digest_X11_pact : GoodIn wsX11_digest (wsV RX11 238 RX11 yX11_pact wsX11_pact) := sorry

set_option maxRecDepth 20000 in
set_option maxRecDepth 20000 in
theorem gX11_digest_X7_drawLots : GoodIn wsX11_digest (wsV RX11 197 RX7 yX7_drawLots wsX7_drawLots) := sorry

set_option maxRecDepth 20000 in
set_option maxRecDepth 20000 in
theorem gX11_digest_X11_fisher : GoodIn wsX11_digest (wsV RX11 235 RX11 yX11_fisher wsX11_fisher) := sorry

set_option maxRecDepth 20000 in
set_option maxRecDepth 20000 in
theorem gX11_digest_X11_took : GoodIn wsX11_digest (wsV RX11 233 RX11 yX11_took wsX11_took) := sorry

set_option maxRecDepth 20000 in
set_option maxRecDepth 20000 in
theorem gX11_digest_X11_ground : GoodIn wsX11_digest (wsV RX11 230 RX11 yX11_ground wsX11_ground) := sorry

set_option maxRecDepth 20000 in
set_option maxRecDepth 20000 in
theorem gX11_digest_X11_count : GoodIn wsX11_digest (wsV RX11 227 RX11 yX11_count wsX11_count) := sorry

theorem i_X11_digest_X11 : ∀ w ∈ u_ws RX11 TX11 4, w ∈ wsX11_digest := sorry

theorem i_X11_digest_X7 : ∀ w ∈ u_ws RX7 TX7 17, w ∈ wsX11_digest := sorry

abbrev rX11_digest : Room := { frames := 3, cells := 0, slots := 0, locals := 65 }
noncomputable def bb_X11_digest_227 (M : gMem) (x0 : Nat) (x1 : Int64) (x3 : Int32) : Option ((gMem × Int64 × Int32) ⊕ (Int64 × gMem)) :=
  ck (mT M x0 = 10) <| dr ((mR M x0 1)) fun a2 => ck (mT M a2 = 7) <| (if (mI M a2 3) ≤ x3 then oI (some (x1, M)) else dr ((mR M a2 11)) fun a5 => ck (mT M a5 = 20) <| ck (inb x3 (mL M a5)) <| some (.inl (M, ((x1 * (31 : Int64)) + (Int32.toInt64 (mI M a5 x3.toNatClampNeg))), (x3 + (1 : Int32)))))
noncomputable def lp_X11_digest_227 (M : gMem) (x0 : Nat) (x1 : Int64) (x3 : Int32) : Option (Int64 × gMem) :=
  lp (fun (q : gMem × Int64 × Int32) => bb_X11_digest_227 q.1 x0 q.2.1 q.2.2) (M, x1, x3)
noncomputable def bb_X11_digest_183 (M : gMem) (x0 : Nat) (x1 : Int64) (x3 : Int32) (x4 : Int32) : Option ((gMem × Int64 × Int32) ⊕ ((gMem × Int64 × Int32) ⊕ (Int64 × gMem))) :=
  (if (6 : Int32) < x4 then oI (some (.inl (M, x1, (x3 + (1 : Int32))))) else ck (mT M x0 = 10) <| bd (f_X11_pact_n M x0 x3 x4) fun r9 M9 => some (.inl (M9, ((x1 * (31 : Int64)) + (Int32.toInt64 r9)), (x4 + (1 : Int32)))))
noncomputable def lp_X11_digest_183 (M : gMem) (x0 : Nat) (x1 : Int64) (x3 : Int32) (x4 : Int32) : Option ((gMem × Int64 × Int32) ⊕ (Int64 × gMem)) :=
  lp (fun (q : gMem × Int64 × Int32) => bb_X11_digest_183 q.1 x0 q.2.1 x3 q.2.2) (M, x1, x4)
noncomputable def bb_X11_digest_169 (M : gMem) (x0 : Nat) (x1 : Int64) (x3 : Int32) : Option ((gMem × Int64 × Int32) ⊕ (Int64 × gMem)) :=
  ck (mT M x0 = 10) <| dr ((mR M x0 1)) fun a12 => ck (mT M a12 = 7) <| (if (mI M a12 5) ≤ x3 then bd (f_X7_drawLots M a12) fun r14 M14 => oI (lp_X11_digest_227 M14 x0 x1 ((0 : Int32))) else lp_X11_digest_183 M x0 x1 x3 ((0 : Int32)))
noncomputable def lp_X11_digest_169 (M : gMem) (x0 : Nat) (x1 : Int64) (x3 : Int32) : Option (Int64 × gMem) :=
  lp (fun (q : gMem × Int64 × Int32) => bb_X11_digest_169 q.1 x0 q.2.1 q.2.2) (M, x1, x3)
noncomputable def bb_X11_digest_133 (M : gMem) (x0 : Nat) (x1 : Int64) (x3 : Int32) (x4 : Int32) : Option ((gMem × Int64 × Int32) ⊕ ((gMem × Int64 × Int32) ⊕ (Int64 × gMem))) :=
  (if (9 : Int32) < x4 then oI (some (.inl (M, x1, (x3 + (1 : Int32))))) else ck (mT M x0 = 10) <| bd (f_X11_fisher_n M x0 x3 x4) fun r17 M17 => some (.inl (M17, ((x1 * (31 : Int64)) + (Int32.toInt64 r17)), (x4 + (1 : Int32)))))
noncomputable def lp_X11_digest_133 (M : gMem) (x0 : Nat) (x1 : Int64) (x3 : Int32) (x4 : Int32) : Option ((gMem × Int64 × Int32) ⊕ (Int64 × gMem)) :=
  lp (fun (q : gMem × Int64 × Int32) => bb_X11_digest_133 q.1 x0 q.2.1 x3 q.2.2) (M, x1, x4)
noncomputable def bb_X11_digest_119 (M : gMem) (x0 : Nat) (x1 : Int64) (x3 : Int32) : Option ((gMem × Int64 × Int32) ⊕ (Int64 × gMem)) :=
  ck (mT M x0 = 10) <| dr ((mR M x0 1)) fun a20 => ck (mT M a20 = 7) <| (if (mI M a20 3) ≤ x3 then oI (lp_X11_digest_169 M x0 x1 ((0 : Int32))) else lp_X11_digest_133 M x0 x1 x3 ((0 : Int32)))
noncomputable def lp_X11_digest_119 (M : gMem) (x0 : Nat) (x1 : Int64) (x3 : Int32) : Option (Int64 × gMem) :=
  lp (fun (q : gMem × Int64 × Int32) => bb_X11_digest_119 q.1 x0 q.2.1 q.2.2) (M, x1, x3)
noncomputable def bb_X11_digest_78 (M : gMem) (x0 : Nat) (x1 : Int64) (x3 : Int32) (x4 : Int32) : Option ((gMem × Int64 × Int32) ⊕ ((gMem × Int64 × Int32) ⊕ (Int64 × gMem))) :=
  ck (mT M x0 = 10) <| dr ((mR M x0 1)) fun a24 => ck (mT M a24 = 7) <| (if (mI M a24 3) ≤ x4 then oI (some (.inl (M, x1, (x3 + (1 : Int32))))) else bd (f_X11_took_n M x0 x3 x4) fun r27 M27 => some (.inl (M27, ((x1 * (31 : Int64)) + (Int32.toInt64 r27)), (x4 + (1 : Int32)))))
noncomputable def lp_X11_digest_78 (M : gMem) (x0 : Nat) (x1 : Int64) (x3 : Int32) (x4 : Int32) : Option ((gMem × Int64 × Int32) ⊕ (Int64 × gMem)) :=
  lp (fun (q : gMem × Int64 × Int32) => bb_X11_digest_78 q.1 x0 q.2.1 x3 q.2.2) (M, x1, x4)
noncomputable def bb_X11_digest_47 (M : gMem) (x0 : Nat) (x1 : Int64) (x3 : Int32) (x4 : Int32) : Option ((gMem × Int64 × Int32) ⊕ ((gMem × Int64 × Int32) ⊕ (Int64 × gMem))) :=
  (if (8 : Int32) < x4 then oI (lp_X11_digest_78 M x0 x1 x3 ((0 : Int32))) else ck (mT M x0 = 10) <| bd (f_X11_ground_n M x0 x3 x4) fun r29 M29 => some (.inl (M29, ((x1 * (31 : Int64)) + (Int32.toInt64 r29)), (x4 + (1 : Int32)))))
noncomputable def lp_X11_digest_47 (M : gMem) (x0 : Nat) (x1 : Int64) (x3 : Int32) (x4 : Int32) : Option ((gMem × Int64 × Int32) ⊕ (Int64 × gMem)) :=
  lp (fun (q : gMem × Int64 × Int32) => bb_X11_digest_47 q.1 x0 q.2.1 x3 q.2.2) (M, x1, x4)
noncomputable def bb_X11_digest_33 (M : gMem) (x0 : Nat) (x1 : Int64) (x3 : Int32) : Option ((gMem × Int64 × Int32) ⊕ (Int64 × gMem)) :=
  ck (mT M x0 = 10) <| dr ((mR M x0 1)) fun a32 => ck (mT M a32 = 7) <| (if (mI M a32 2) ≤ x3 then oI (lp_X11_digest_119 M x0 x1 ((0 : Int32))) else lp_X11_digest_47 M x0 x1 x3 ((0 : Int32)))
noncomputable def lp_X11_digest_33 (M : gMem) (x0 : Nat) (x1 : Int64) (x3 : Int32) : Option (Int64 × gMem) :=
  lp (fun (q : gMem × Int64 × Int32) => bb_X11_digest_33 q.1 x0 q.2.1 q.2.2) (M, x1, x3)
noncomputable def bb_X11_digest_6 (M : gMem) (x0 : Nat) (x1 : Int64) (x3 : Int32) : Option ((gMem × Int64 × Int32) ⊕ (Int64 × gMem)) :=
  (if (9 : Int32) < x3 then oI (lp_X11_digest_33 M x0 x1 ((0 : Int32))) else ck (mT M x0 = 10) <| bd (f_X11_count_n M x0 x3) fun r36 M36 => some (.inl (M36, ((x1 * (31 : Int64)) + (Int32.toInt64 r36)), (x3 + (1 : Int32)))))
noncomputable def lp_X11_digest_6 (M : gMem) (x0 : Nat) (x1 : Int64) (x3 : Int32) : Option (Int64 × gMem) :=
  lp (fun (q : gMem × Int64 × Int32) => bb_X11_digest_6 q.1 x0 q.2.1 q.2.2) (M, x1, x3)
noncomputable def b_X11_digest_0 (M : gMem) (x0 : Nat) : Option (Int64 × gMem) :=
  lp_X11_digest_6 M x0 ((739 : Int64)) ((0 : Int32))
noncomputable def f_X11_digest (M : gMem) (x0 : Nat) : Option (Int64 × gMem) :=
  b_X11_digest_0 M x0
set_option maxHeartbeats 4000000 in
set_option maxRecDepth 100000 in
set_option maxHeartbeats 4000000 in
set_option maxRecDepth 100000 in
set_option maxHeartbeats 4000000 in
set_option maxRecDepth 100000 in
set_option maxHeartbeats 4000000 in
set_option maxRecDepth 100000 in
set_option maxHeartbeats 4000000 in
set_option maxRecDepth 100000 in
set_option maxHeartbeats 4000000 in
set_option maxRecDepth 100000 in
set_option maxHeartbeats 4000000 in
set_option maxRecDepth 100000 in
set_option maxHeartbeats 4000000 in
set_option maxRecDepth 100000 in
set_option maxHeartbeats 4000000 in
set_option maxRecDepth 100000 in
set_option maxHeartbeats 4000000 in
set_option maxRecDepth 100000 in
set_option maxHeartbeats 4000000 in
set_option maxRecDepth 100000 in
set_option maxHeartbeats 4000000 in
set_option maxRecDepth 100000 in
set_option maxHeartbeats 4000000 in
set_option maxRecDepth 100000 in
set_option maxHeartbeats 4000000 in
set_option maxRecDepth 100000 in
set_option maxHeartbeats 4000000 in
set_option maxRecDepth 100000 in
set_option maxHeartbeats 4000000 in
set_option maxRecDepth 100000 in
set_option maxHeartbeats 4000000 in
set_option maxRecDepth 100000 in
set_option maxHeartbeats 4000000 in
set_option maxRecDepth 100000 in
set_option maxHeartbeats 4000000 in
set_option maxRecDepth 100000 in
theorem t_X11_digest_0 (X : gX p s m args meth c D cy B (gSt Z B H0) RX11 cX11_digest wsX11_digest 5) (hr : meth.sig.returnType = (some .long)) {Q : State → Prop} : ∀ (M : gMem) (x0 : Nat) (z : Int64 × gMem), b_X11_digest_0 M x0 = some z → (fun (r : Int64 × gMem) => Q = gMQ below D cy B H0 args s 0 0 (some (vJ r.1)) r.2) z → gGo p l e rX11_digest s m args below meth c D cy B H0 5 0 0 Q 0 [(0, vR (some x0))] [] M := sorry

set_option maxHeartbeats 4000000 in
set_option maxRecDepth 100000 in
theorem m_X11_digest (l : Launch) {D : va_G} {cy : Nat → ClassId} {B : Nat} {H0 : Heap} {Z : Nat → Nat} {M M1 : gMem} {x0 : Nat} {r : Int64} (hf : f_X11_digest M x0 = some (r, M1)) : Met l yX11_digest wsX11_digest rX11_digest (va_Pc (Value.ref x0 :: List.map gv []) (gPre D cy B H0 (gSt Z B H0) M)) (gQ D cy B H0 (some (vJ r)) M1) 0 0 (gA B) := sorry

end
