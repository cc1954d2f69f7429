section
variable {p : Program} {l : Launch} {e : Env} {s : State} {m : MethodId} {args : Array Value} {below : List Frame} {meth : Method} {c : Code} {D : va_G} {cy : Nat → ClassId} {B : Nat} {H0 : Heap} {Z : Nat → Nat}
/-! ## TideLots$Shore.<init>()V -/
set_option maxRecDepth 20000 in
set_option maxRecDepth 20000 in
theorem gX7_init_X5_init_n66 : GoodIn wsX7_init (wsX5_init) := sorry

set_option maxRecDepth 20000 in
set_option maxRecDepth 20000 in
theorem gX7_init_X2_init_n71 : GoodIn wsX7_init (wsX2_init) := sorry

set_option maxRecDepth 20000 in
set_option maxRecDepth 20000 in
theorem gX7_init_X1_init_n61 : GoodIn wsX7_init (wsX1_init) := sorry

set_option maxRecDepth 20000 in
set_option maxRecDepth 20000 in
theorem gX7_init_X3_init_n56 : GoodIn wsX7_init (wsX3_init) := sorry

set_option maxRecDepth 20000 in
set_option maxRecDepth 20000 in
theorem gX7_init_X9_init : GoodIn wsX7_init (wsX9_init) := sorry

theorem i_X7_init_X7 : ∀ w ∈ u_ws RX7 TX7 17, w ∈ wsX7_init := sorry

theorem i_X7_init_X5 : ∀ w ∈ u_ws RX5 TX5 8, w ∈ wsX7_init := sorry

theorem i_X7_init_X2 : ∀ w ∈ u_ws RX2 TX2 4, w ∈ wsX7_init := sorry

theorem i_X7_init_X1 : ∀ w ∈ u_ws RX1 TX1 11, w ∈ wsX7_init := sorry

theorem i_X7_init_X3 : ∀ w ∈ u_ws RX3 TX3 4, w ∈ wsX7_init := sorry

theorem i_X7_init_X9 : ∀ w ∈ u_ws RX9 TX9 4, w ∈ wsX7_init := sorry

abbrev rX7_init : Room := { frames := 2, cells := 90, slots := 36000, locals := 33 }
noncomputable def bb_X7_init_196 (N0 : Nat) (Z : Nat → Nat) (M : gMem) (x0 : Nat) (x1 : Int32) : Option ((gMem × Int32) ⊕ (Unit × gMem)) :=
  (if (6 : Int32) ≤ x1 then ck (mN M ≤ N0 + 90) <| oI (some ((), M)) else ck (mT M x0 = 7) <| ck (mN M + 1 ≤ N0 + 90) <| lw (nW M 5 0) fun M5 => ck (mN M5 + 1 ≤ N0 + 90) <| bd (f_X5_init M5 ((mN M))) fun _ M6 => ck (mN M6 = mN M5 + 1) <| dr ((mR M x0 9)) fun a9 => ck (mT M6 a9 = 26) <| ck (inb x1 (mL M6 a9)) <| ck (mT M6 (mN M) = 5) <| lw (wR M6 a9 x1.toNatClampNeg ((some (mN M)))) fun M13 => some (.inl (M13, (x1 + (1 : Int32)))))
noncomputable def lp_X7_init_196 (N0 : Nat) (Z : Nat → Nat) (M : gMem) (x0 : Nat) (x1 : Int32) : Option (Unit × gMem) :=
  lp (fun (q : gMem × Int32) => bb_X7_init_196 N0 Z q.1 x0 q.2) (M, x1)
noncomputable def bb_X7_init_169 (N0 : Nat) (Z : Nat → Nat) (M : gMem) (x0 : Nat) (x1 : Int32) : Option ((gMem × Int32) ⊕ (Unit × gMem)) :=
  (if (24 : Int32) ≤ x1 then oI (lp_X7_init_196 N0 Z M x0 ((0 : Int32))) else ck (mT M x0 = 7) <| ck (mN M + 1 ≤ N0 + 90) <| lw (nW M 2 0) fun M19 => ck (mN M19 + 0 ≤ N0 + 90) <| bd (f_X2_init M19 ((mN M))) fun _ M20 => ck (mN M20 = mN M19 + 0) <| dr ((mR M x0 8)) fun a23 => ck (mT M20 a23 = 25) <| ck (inb x1 (mL M20 a23)) <| ck (mT M20 (mN M) = 2) <| lw (wR M20 a23 x1.toNatClampNeg ((some (mN M)))) fun M27 => some (.inl (M27, (x1 + (1 : Int32)))))
noncomputable def lp_X7_init_169 (N0 : Nat) (Z : Nat → Nat) (M : gMem) (x0 : Nat) (x1 : Int32) : Option (Unit × gMem) :=
  lp (fun (q : gMem × Int32) => bb_X7_init_169 N0 Z q.1 x0 q.2) (M, x1)
noncomputable def bb_X7_init_142 (N0 : Nat) (Z : Nat → Nat) (M : gMem) (x0 : Nat) (x1 : Int32) : Option ((gMem × Int32) ⊕ (Unit × gMem)) :=
  (if (8 : Int32) ≤ x1 then oI (lp_X7_init_169 N0 Z M x0 ((0 : Int32))) else ck (mT M x0 = 7) <| ck (mN M + 1 ≤ N0 + 90) <| lw (nW M 1 0) fun M33 => ck (mN M33 + 1 ≤ N0 + 90) <| bd (f_X1_init M33 ((mN M))) fun _ M34 => ck (mN M34 = mN M33 + 1) <| dr ((mR M x0 7)) fun a37 => ck (mT M34 a37 = 24) <| ck (inb x1 (mL M34 a37)) <| ck (mT M34 (mN M) = 1) <| lw (wR M34 a37 x1.toNatClampNeg ((some (mN M)))) fun M41 => some (.inl (M41, (x1 + (1 : Int32)))))
noncomputable def lp_X7_init_142 (N0 : Nat) (Z : Nat → Nat) (M : gMem) (x0 : Nat) (x1 : Int32) : Option (Unit × gMem) :=
  lp (fun (q : gMem × Int32) => bb_X7_init_142 N0 Z q.1 x0 q.2) (M, x1)
noncomputable def bb_X7_init_115 (N0 : Nat) (Z : Nat → Nat) (M : gMem) (x0 : Nat) (x1 : Int32) : Option ((gMem × Int32) ⊕ (Unit × gMem)) :=
  (if (8 : Int32) ≤ x1 then oI (lp_X7_init_142 N0 Z M x0 ((0 : Int32))) else ck (mT M x0 = 7) <| ck (mN M + 1 ≤ N0 + 90) <| lw (nW M 3 0) fun M47 => ck (mN M47 + 1 ≤ N0 + 90) <| bd (f_X3_init M47 ((mN M))) fun _ M48 => ck (mN M48 = mN M47 + 1) <| dr ((mR M x0 6)) fun a51 => ck (mT M48 a51 = 23) <| ck (inb x1 (mL M48 a51)) <| ck (mT M48 (mN M) = 3) <| lw (wR M48 a51 x1.toNatClampNeg ((some (mN M)))) fun M55 => some (.inl (M55, (x1 + (1 : Int32)))))
noncomputable def lp_X7_init_115 (N0 : Nat) (Z : Nat → Nat) (M : gMem) (x0 : Nat) (x1 : Int32) : Option (Unit × gMem) :=
  lp (fun (q : gMem × Int32) => bb_X7_init_115 N0 Z q.1 x0 q.2) (M, x1)
noncomputable def b_X7_init_0 (N0 : Nat) (Z : Nat → Nat) (M : gMem) (x0 : Nat) : Option (Unit × gMem) :=
  ck (mT M x0 = 7) <| lw (wI M x0 1 ((1 : Int32))) fun M59 => ck (mN M59 + 1 ≤ N0 + 90) <| lw (nW M59 23 ((8 : Int32)).toNatClampNeg) fun M62 => ck (mT M62 x0 = 7) <| lw (wR M62 x0 6 ((some (mN M59)))) fun M64 => ck (mN M64 + 1 ≤ N0 + 90) <| lw (nW M64 24 ((8 : Int32)).toNatClampNeg) fun M67 => ck (mT M67 x0 = 7) <| lw (wR M67 x0 7 ((some (mN M64)))) fun M69 => ck (mN M69 + 1 ≤ N0 + 90) <| lw (nW M69 25 ((24 : Int32)).toNatClampNeg) fun M72 => ck (mT M72 x0 = 7) <| lw (wR M72 x0 8 ((some (mN M69)))) fun M74 => ck (mN M74 + 1 ≤ N0 + 90) <| lw (nW M74 26 ((6 : Int32)).toNatClampNeg) fun M77 => ck (mT M77 x0 = 7) <| lw (wR M77 x0 9 ((some (mN M74)))) fun M79 => ck (mN M79 + 1 ≤ N0 + 90) <| lw (nW M79 8 0) fun M82 => ck (mN M82 + 3 ≤ N0 + 90) <| bd (f_X9_init Z M82 ((mN M79))) fun _ M83 => ck (mN M83 = mN M82 + 3) <| ck (mT M83 x0 = 7) <| lw (wR M83 x0 10 ((some (mN M79)))) fun M87 => ck (mN M87 + 1 ≤ N0 + 90) <| lw (nW M87 20 ((8 : Int32)).toNatClampNeg) fun M90 => ck (mT M90 x0 = 7) <| lw (wR M90 x0 11 ((some (mN M87)))) fun M92 => ck (mN M92 + 1 ≤ N0 + 90) <| lw (nW M92 20 ((8 : Int32)).toNatClampNeg) fun M95 => ck (mT M95 x0 = 7) <| lw (wR M95 x0 12 ((some (mN M92)))) fun M97 => ck (mN M97 + 1 ≤ N0 + 90) <| lw (nW M97 20 ((6 : Int32)).toNatClampNeg) fun M100 => ck (mT M100 x0 = 7) <| lw (wR M100 x0 13 ((some (mN M97)))) fun M102 => ck (mN M102 + 1 ≤ N0 + 90) <| lw (nW M102 3 0) fun M105 => ck (mN M105 + 1 ≤ N0 + 90) <| bd (f_X3_init M105 ((mN M102))) fun _ M106 => ck (mN M106 = mN M105 + 1) <| ck (mT M106 x0 = 7) <| lw (wR M106 x0 14 ((some (mN M102)))) fun M110 => ck (mN M110 + 1 ≤ N0 + 90) <| lw (nW M110 1 0) fun M113 => ck (mN M113 + 1 ≤ N0 + 90) <| bd (f_X1_init M113 ((mN M110))) fun _ M114 => ck (mN M114 = mN M113 + 1) <| ck (mT M114 x0 = 7) <| lw (wR M114 x0 15 ((some (mN M110)))) fun M118 => ck (mN M118 + 1 ≤ N0 + 90) <| lw (nW M118 5 0) fun M121 => ck (mN M121 + 1 ≤ N0 + 90) <| bd (f_X5_init M121 ((mN M118))) fun _ M122 => ck (mN M122 = mN M121 + 1) <| ck (mT M122 x0 = 7) <| lw (wR M122 x0 16 ((some (mN M118)))) fun M126 => lp_X7_init_115 N0 Z M126 x0 ((0 : Int32))
noncomputable def f_X7_init (Z : Nat → Nat) (M : gMem) (x0 : Nat) : Option (Unit × gMem) :=
  b_X7_init_0 (mN M) Z M x0
set_option maxHeartbeats 4000000 in
set_option maxRecDepth 100000 in
set_option maxHeartbeats 4000000 in
set_option maxRecDepth 100000 in
set_option maxHeartbeats 4000000 in
set_option maxRecDepth 100000 in
set_option maxHeartbeats 4000000 in
set_option maxRecDepth 100000 in
set_option maxHeartbeats 4000000 in
set_option maxRecDepth 100000 in
set_option maxHeartbeats 4000000 in
set_option maxRecDepth 100000 in
set_option maxHeartbeats 4000000 in
set_option maxRecDepth 100000 in
set_option maxHeartbeats 4000000 in
set_option maxRecDepth 100000 in
set_option maxHeartbeats 4000000 in
set_option maxRecDepth 100000 in
theorem t_X7_init_0 (X2 : gX p s m args meth c D cy B (gSt2 Z B H0) RX7 cX7_init wsX7_init 2) (hr : meth.sig.returnType = none) (hin : meth.name = "<init>") {N0 : Nat} {Q : State → Prop} : ∀ (M : gMem) (x0 : Nat) (z : Unit × gMem), b_X7_init_0 N0 Z M x0 = some z → (fun (r : Unit × gMem) => Q = gMQ below D cy B H0 args s 90 36000 none r.2) z → N0 ≤ mN M → gGo p l e rX7_init s m args below meth c D cy B H0 2 (mN M - N0) (400 * (mN M - N0)) Q 0 [(0, vR (some x0))] [] M := sorry

set_option maxHeartbeats 4000000 in
set_option maxRecDepth 100000 in
theorem m_X7_init (l : Launch) {D : va_G} {cy : Nat → ClassId} {B : Nat} {H0 : Heap} {Z : Nat → Nat} {M M1 : gMem} {x0 : Nat} {r : Unit} (hf : f_X7_init Z M x0 = some (r, M1)) : Met l yX7_init wsX7_init rX7_init (va_Pc (Value.ref x0 :: List.map gv []) (gPre D cy B H0 (gSt2 Z B H0) M)) (gQ D cy B H0 none M1) 90 36000 (gA B) := sorry

/-! ## TideLots.<init>()V -/
set_option maxRecDepth 20000 in
set_option maxRecDepth 20000 in
theorem gX11_init_X10_init : GoodIn wsX11_init (wsX10_init) := sorry

set_option maxRecDepth 20000 in
set_option maxRecDepth 20000 in
theorem gX11_init_X7_init : GoodIn wsX11_init (wsX7_init) := sorry

theorem i_X11_init_X10 : ∀ w ∈ u_ws RX10 TX10 6, w ∈ wsX11_init := sorry

theorem i_X11_init_X11 : ∀ w ∈ u_ws RX11 TX11 4, w ∈ wsX11_init := sorry

theorem i_X11_init_X7 : ∀ w ∈ u_ws RX7 TX7 17, w ∈ wsX11_init := sorry

abbrev rX11_init : Room := { frames := 3, cells := 187, slots := 75243, locals := 54 }
noncomputable def b_X11_init_0 (Z : Nat → Nat) (M : gMem) (x0 : Nat) : Option (Unit × gMem) :=
  lw (nW M 9 0) fun M1 => bd (f_X10_init Z M1 ((mN M))) fun _ M2 => ck (mT M2 x0 = 10) <| lw (wR M2 x0 0 ((some (mN M)))) fun M4 => lw (nW M4 7 0) fun M6 => bd (f_X7_init Z M6 ((mN M4))) fun _ M7 => ck (mT M7 x0 = 10) <| lw (wR M7 x0 1 ((some (mN M4)))) fun M9 => lw (nW M9 7 0) fun M11 => bd (f_X7_init Z M11 ((mN M9))) fun _ M12 => ck (mT M12 x0 = 10) <| lw (wR M12 x0 2 ((some (mN M9)))) fun M14 => lw (wI M14 x0 3 ((-1 : Int32))) fun M16 => some ((), M16)
noncomputable def f_X11_init (Z : Nat → Nat) (M : gMem) (x0 : Nat) : Option (Unit × gMem) :=
  b_X11_init_0 Z M x0
set_option maxHeartbeats 4000000 in
set_option maxRecDepth 100000 in
theorem t_X11_init_0 (X2 : gX p s m args meth c D cy B (gSt2 Z B H0) RX11 cX11_init wsX11_init 1) (hr : meth.sig.returnType = none) (hin : meth.name = "<init>") {Q : State → Prop} : ∀ (M : gMem) (x0 : Nat) (z : Unit × gMem), b_X11_init_0 Z M x0 = some z → (fun (r : Unit × gMem) => Q = gMQ below D cy B H0 args s 187 75243 none r.2) z → gGo p l e rX11_init s m args below meth c D cy B H0 1 0 0 Q 0 [(0, vR (some x0))] [] M := sorry

set_option maxHeartbeats 4000000 in
set_option maxRecDepth 100000 in
theorem m_X11_init (l : Launch) {D : va_G} {cy : Nat → ClassId} {B : Nat} {H0 : Heap} {Z : Nat → Nat} {M M1 : gMem} {x0 : Nat} {r : Unit} (hf : f_X11_init Z M x0 = some (r, M1)) : Met l yX11_init wsX11_init rX11_init (va_Pc (Value.ref x0 :: List.map gv []) (gPre D cy B H0 (gSt2 Z B H0) M)) (gQ D cy B H0 none M1) 187 75243 (gA B) := sorry

end
