section
theorem goodIn_c1 {big a : List Cond} {c : Cond} (hc : GoodIn big [c]) (ha : GoodIn big a) : GoodIn big (c :: a) := sorry

variable {p : Program} {l : Launch} {e : Env} {s : State} {m : MethodId} {args : Array Value} {below : List Frame} {meth : Method} {c : Code} {D : va_G} {cy : Nat → ClassId} {B : Nat} {H0 : Heap} {Z : Nat → Nat}
/-! ## TideLots.teach()I -/
set_option maxRecDepth 20000 in
set_option maxRecDepth 20000 in
theorem gX11_teach_X10_scan : GoodIn wsX11_teach (wsV RX11 49 RX10 yX10_scan wsX10_scan) := sorry

set_option maxRecDepth 20000 in
set_option maxRecDepth 20000 in
theorem gX11_teach_X6_init : GoodIn wsX11_teach (wsX6_init) := sorry

set_option maxRecDepth 20000 in
set_option maxRecDepth 20000 in
set_option maxRecDepth 20000 in
set_option maxRecDepth 20000 in
set_option maxRecDepth 20000 in
set_option maxRecDepth 20000 in
set_option maxRecDepth 20000 in
set_option maxRecDepth 20000 in
set_option maxRecDepth 20000 in
set_option maxRecDepth 20000 in
set_option maxRecDepth 20000 in
set_option maxRecDepth 20000 in
set_option maxRecDepth 20000 in
set_option maxRecDepth 20000 in
set_option maxRecDepth 20000 in
set_option maxRecDepth 20000 in
set_option maxRecDepth 20000 in
set_option maxRecDepth 20000 in
set_option maxRecDepth 20000 in
set_option maxRecDepth 20000 in
set_option maxRecDepth 20000 in
set_option maxRecDepth 20000 in
set_option maxRecDepth 20000 in
theorem gX11_teach_X6_read : GoodIn wsX11_teach (wsV RX11 57 RX6 yX6_read wsX6_read) := sorry

theorem i_X11_teach_X11 : ∀ w ∈ u_ws RX11 TX11 4, w ∈ wsX11_teach := sorry

theorem i_X11_teach_X6 : ∀ w ∈ u_ws RX6 TX6 9, w ∈ wsX11_teach := sorry

theorem i_X11_teach_X10 : ∀ w ∈ u_ws RX10 TX10 6, w ∈ wsX11_teach := sorry

theorem i_X11_teach_X7 : ∀ w ∈ u_ws RX7 TX7 17, w ∈ wsX11_teach := sorry

abbrev rX11_teach : Room := { frames := 69, cells := 7, slots := 39, locals := 2671 }
noncomputable def b_X11_teach_94 (Z : Nat → Nat) (M : gMem) (x2 : Int32) : Option (Int32 × gMem) :=
  some (x2, M)
noncomputable def b_X11_teach_0 (Z : Nat → Nat) (M : gMem) (x0 : Nat) : Option (Int32 × gMem) :=
  ck (mT M x0 = 10) <| dr ((mR M x0 0)) fun a3 => ck (mT M a3 = 9) <| bd (f_X10_scan Z M a3) fun _ M2 => lw (nW M2 6 0) fun M5 => ck (mT M5 x0 = 10) <| bd (f_X6_init M5 ((mN M2)) ((mR M5 x0 0)) ((mR M5 x0 2))) fun _ M7 => ck (mT M7 (mN M2) = 6) <| bd (f_X6_read Z M7 ((mN M2))) fun r8 M8 => ck (mT M8 (mN M2) = 6) <| ck (mT M8 x0 = 10) <| lw (wI M8 x0 3 ((mI M8 (mN M2) 0))) fun M12 => dr ((mR M12 x0 0)) fun a15 => ck (mT M12 a15 = 9) <| lw (wI M12 a15 0 ((0 : Int32))) fun M17 => (if r8 = 0 then dr ((mR M17 x0 1)) fun a21 => ck (mT M17 a21 = 7) <| dr ((mR M17 x0 2)) fun a23 => ck (mT M17 a23 = 7) <| lw (wI M17 a23 0 ((mI M17 a21 0))) fun M25 => dr ((mR M25 x0 1)) fun a31 => ck (mT M25 a31 = 7) <| dr ((mR M25 x0 2)) fun a33 => ck (mT M25 a33 = 7) <| lw (wI M25 a33 1 ((mI M25 a31 1))) fun M35 => lw (wR M35 x0 1 ((mR M35 x0 2))) fun M43 => lw (wR M43 x0 2 ((mR M35 x0 1))) fun M51 => b_X11_teach_94 Z M51 r8 else b_X11_teach_94 Z M17 r8)
noncomputable def f_X11_teach (Z : Nat → Nat) (M : gMem) (x0 : Nat) : Option (Int32 × gMem) :=
  b_X11_teach_0 Z M x0
set_option maxHeartbeats 4000000 in
set_option maxRecDepth 100000 in
theorem t_X11_teach_94 (X : gX p s m args meth c D cy B (gSt Z B H0) RX11 cX11_teach wsX11_teach 4) (hr : meth.sig.returnType = (some .int)) {Q : State → Prop} : ∀ (M : gMem) (x2 : Int32) (z : Int32 × gMem), b_X11_teach_94 Z M x2 = some z → (fun (r : Int32 × gMem) => Q = gMQ below D cy B H0 args s 7 39 (some (vI r.1)) r.2) z → gGo p l e rX11_teach s m args below meth c D cy B H0 4 7 39 Q 94 [(2, vI x2)] [] M := sorry

set_option maxHeartbeats 4000000 in
set_option maxRecDepth 100000 in
theorem t_X11_teach_0 (X : gX p s m args meth c D cy B (gSt Z B H0) RX11 cX11_teach wsX11_teach 4) (hr : meth.sig.returnType = (some .int)) {Q : State → Prop} : ∀ (M : gMem) (x0 : Nat) (z : Int32 × gMem), b_X11_teach_0 Z M x0 = some z → (fun (r : Int32 × gMem) => Q = gMQ below D cy B H0 args s 7 39 (some (vI r.1)) r.2) z → gGo p l e rX11_teach s m args below meth c D cy B H0 4 0 0 Q 0 [(0, vR (some x0))] [] M := sorry

set_option maxHeartbeats 4000000 in
set_option maxRecDepth 100000 in
theorem m_X11_teach (l : Launch) {D : va_G} {cy : Nat → ClassId} {B : Nat} {H0 : Heap} {Z : Nat → Nat} {M M1 : gMem} {x0 : Nat} {r : Int32} (hf : f_X11_teach Z M x0 = some (r, M1)) : Met l yX11_teach wsX11_teach rX11_teach (va_Pc (Value.ref x0 :: List.map gv []) (gPre D cy B H0 (gSt Z B H0) M)) (gQ D cy B H0 (some (vI r)) M1) 7 39 (gA B) := sorry

end
