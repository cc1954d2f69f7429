section
variable {p : Program} {l : Launch} {e : Env} {s : State} {m : MethodId} {args : Array Value} {below : List Frame} {meth : Method} {c : Code} {D : va_G} {cy : Nat → ClassId} {B : Nat} {H0 : Heap} {Z : Nat → Nat}
abbrev rX6R (n : Nat) : Room := { frames := n + 2, cells := 0, slots := 0, locals := n * 40 + 44 }
theorem rX6R_f {n a : Nat} (h : a ≤ 2) : a ≤ (rX6R (n + 1)).frames := sorry

theorem rX6R_l {n a : Nat} (h : a ≤ 44) : a ≤ (rX6R (n + 1)).locals := sorry

theorem rX6R_rf {n : Nat} : (rX6R n).frames + 1 ≤ (rX6R (n + 1)).frames := sorry

theorem rX6R_rl {n a : Nat} (h : a ≤ 21) : 8 + (a + 11) + (rX6R n).locals ≤ (rX6R (n + 1)).locals := sorry

def hX6R (l : Launch) (D : va_G) (cy : Nat → ClassId) (B : Nat) (H0 : Heap) (Z : Nat → Nat) (n0 : Nat) (F : Nat → gMem → Nat → Int32 → Option (Int32 × gMem)) : Prop :=
  (∀ (M M1 : gMem) (r : Int32) (x0 : Nat) (x1 : Int32), F 0 M x0 x1 = some (r, M1) → Met l yX6_test wsX6_test (rX6R n0) (va_Pc (Value.ref x0 :: List.map gv [vI x1]) (gPre D cy B H0 (gSt Z B H0) M)) (gQ D cy B H0 (some (vI r)) M1) 0 0 (gA B)) ∧
  (∀ (M M1 : gMem) (r : Int32) (x0 : Nat) (x1 : Int32), F 1 M x0 x1 = some (r, M1) → Met l yX6_both wsX6_both (rX6R n0) (va_Pc (Value.ref x0 :: List.map gv [vI x1]) (gPre D cy B H0 (gSt Z B H0) M)) (gQ D cy B H0 (some (vI r)) M1) 0 0 (gA B)) ∧
  (∀ (M M1 : gMem) (r : Int32) (x0 : Nat) (x1 : Int32), F 2 M x0 x1 = some (r, M1) → Met l yX6_single wsX6_single (rX6R n0) (va_Pc (Value.ref x0 :: List.map gv [vI x1]) (gPre D cy B H0 (gSt Z B H0) M)) (gQ D cy B H0 (some (vI r)) M1) 0 0 (gA B)) ∧
  (∀ (M M1 : gMem) (r : Int32) (x0 : Nat) (x1 : Int32), F 3 M x0 x1 = some (r, M1) → Met l yX6_comparedSum wsX6_comparedSum (rX6R n0) (va_Pc (Value.ref x0 :: List.map gv [vI x1]) (gPre D cy B H0 (gSt Z B H0) M)) (gQ D cy B H0 (some (vI r)) M1) 0 0 (gA B)) ∧
  (∀ (M M1 : gMem) (r : Int32) (x0 : Nat) (x1 : Int32), F 4 M x0 x1 = some (r, M1) → Met l yX6_sum wsX6_sum (rX6R n0) (va_Pc (Value.ref x0 :: List.map gv [vI x1]) (gPre D cy B H0 (gSt Z B H0) M)) (gQ D cy B H0 (some (vI r)) M1) 0 0 (gA B)) ∧
  (∀ (M M1 : gMem) (r : Int32) (x0 : Nat) (x1 : Int32), F 5 M x0 x1 = some (r, M1) → Met l yX6_product wsX6_product (rX6R n0) (va_Pc (Value.ref x0 :: List.map gv [vI x1]) (gPre D cy B H0 (gSt Z B H0) M)) (gQ D cy B H0 (some (vI r)) M1) 0 0 (gA B)) ∧
  (∀ (M M1 : gMem) (r : Int32) (x0 : Nat) (x1 : Int32), F 6 M x0 x1 = some (r, M1) → Met l yX6_value wsX6_value (rX6R n0) (va_Pc (Value.ref x0 :: List.map gv [vI x1]) (gPre D cy B H0 (gSt Z B H0) M)) (gQ D cy B H0 (some (vI r)) M1) 0 0 (gA B))
/-! ## TideLots$Reader.test(I)Z -/
set_option maxRecDepth 20000 in
set_option maxRecDepth 20000 in
theorem gX6_test_X6_take : GoodIn wsX6_test (wsV RX6 79 RX6 yX6_take wsX6_take) := sorry

set_option maxRecDepth 20000 in
set_option maxRecDepth 20000 in
theorem gX6_test_X6_both : GoodIn wsX6_test (wsV RX6 267 RX6 yX6_both wsX6_both) := sorry

set_option maxRecDepth 20000 in
set_option maxRecDepth 20000 in
theorem gX6_test_X9_add : GoodIn wsX6_test (wsV RX6 273 RX9 yX9_add wsX9_add) := sorry

theorem i_X6_test_X6 : ∀ w ∈ u_ws RX6 TX6 9, w ∈ wsX6_test := sorry

theorem i_X6_test_X7 : ∀ w ∈ u_ws RX7 TX7 17, w ∈ wsX6_test := sorry

noncomputable def b_X6_test_59 (Z : Nat → Nat) (F : Nat → gMem → Nat → Int32 → Option (Int32 × gMem)) (M : gMem)  : Option (Int32 × gMem) :=
  some ((1 : Int32), M)
noncomputable def bb_X6_test_12 (Z : Nat → Nat) (F : Nat → gMem → Nat → Int32 → Option (Int32 × gMem)) (M : gMem) (x0 : Nat) (x1 : Int32) (x2 : Int32) : Option ((gMem × Int32) ⊕ (Int32 × gMem)) :=
  (if (400 : Int32) ≤ x2 then oI (b_X6_test_59 Z F M ) else ck (mT M x0 = 6) <| bd (f_X6_take M x0 ((some (Z 22)))) fun r2 M2 => (if r2 = 0 then oI (b_X6_test_59 Z F M2 ) else ck (mT M2 x0 = 6) <| bd (F 1 M2 x0 x1) fun r5 M5 => (if r5 = 0 then oI (some ((0 : Int32), M5)) else ck (mT M5 x0 = 6) <| dr ((mR M5 x0 2)) fun a8 => ck (mT M5 a8 = 7) <| dr ((mR M5 a8 10)) fun a11 => ck (mT M5 a11 = 8) <| bd (f_X9_add Z M5 a11 ((some (Z 22))) ((0 : Int32))) fun _ M10 => some (.inl (M10, (x2 + (1 : Int32)))))))
noncomputable def lp_X6_test_12 (Z : Nat → Nat) (F : Nat → gMem → Nat → Int32 → Option (Int32 × gMem)) (M : gMem) (x0 : Nat) (x1 : Int32) (x2 : Int32) : Option (Int32 × gMem) :=
  lp (fun (q : gMem × Int32) => bb_X6_test_12 Z F q.1 x0 x1 q.2) (M, x2)
noncomputable def b_X6_test_0 (Z : Nat → Nat) (F : Nat → gMem → Nat → Int32 → Option (Int32 × gMem)) (M : gMem) (x0 : Nat) (x1 : Int32) : Option (Int32 × gMem) :=
  ck (mT M x0 = 6) <| bd (F 1 M x0 x1) fun r14 M14 => (if r14 = 0 then some ((0 : Int32), M14) else lp_X6_test_12 Z F M14 x0 x1 ((0 : Int32)))
noncomputable def fr_X6_test (Z : Nat → Nat) (F : Nat → gMem → Nat → Int32 → Option (Int32 × gMem)) (M : gMem) (x0 : Nat) (x1 : Int32) : Option (Int32 × gMem) :=
  b_X6_test_0 Z F M x0 x1
set_option maxHeartbeats 4000000 in
set_option maxRecDepth 100000 in
theorem t_X6_test_59 (X : gX p s m args meth c D cy B (gSt Z B H0) RX6 cX6_test wsX6_test 3) (hr : meth.sig.returnType = (some .boolean)) {n0 : Nat} {F : Nat → gMem → Nat → Int32 → Option (Int32 × gMem)} (hF : hX6R l D cy B H0 Z n0 F) {Q : State → Prop} : ∀ (M : gMem)  (z : Int32 × gMem), b_X6_test_59 Z F M  = some z → (fun (r : Int32 × gMem) => Q = gMQ below D cy B H0 args s 0 0 (some (vI r.1)) r.2) z → gGo p l e (rX6R (n0 + 1)) s m args below meth c D cy B H0 3 0 0 Q 59 [] [] M := sorry

set_option maxHeartbeats 4000000 in
set_option maxRecDepth 100000 in
set_option maxHeartbeats 4000000 in
set_option maxRecDepth 100000 in
set_option maxHeartbeats 4000000 in
set_option maxRecDepth 100000 in
theorem t_X6_test_0 (X : gX p s m args meth c D cy B (gSt Z B H0) RX6 cX6_test wsX6_test 3) (hr : meth.sig.returnType = (some .boolean)) {n0 : Nat} {F : Nat → gMem → Nat → Int32 → Option (Int32 × gMem)} (hF : hX6R l D cy B H0 Z n0 F) {Q : State → Prop} : ∀ (M : gMem) (x0 : Nat) (x1 : Int32) (z : Int32 × gMem), b_X6_test_0 Z F M x0 x1 = some z → (fun (r : Int32 × gMem) => Q = gMQ below D cy B H0 args s 0 0 (some (vI r.1)) r.2) z → gGo p l e (rX6R (n0 + 1)) s m args below meth c D cy B H0 3 0 0 Q 0 [(0, vR (some x0)), (1, vI x1)] [] M := sorry

set_option maxHeartbeats 4000000 in
set_option maxRecDepth 100000 in
theorem mr_X6_test (l : Launch) {D : va_G} {cy : Nat → ClassId} {B : Nat} {H0 : Heap} {Z : Nat → Nat} {M M1 : gMem} {n0 : Nat} {F : Nat → gMem → Nat → Int32 → Option (Int32 × gMem)} (hF : hX6R l D cy B H0 Z n0 F) {x0 : Nat} {x1 : Int32} {r : Int32} (hf : fr_X6_test Z F M x0 x1 = some (r, M1)) : Met l yX6_test wsX6_test (rX6R (n0 + 1)) (va_Pc (Value.ref x0 :: List.map gv [vI x1]) (gPre D cy B H0 (gSt Z B H0) M)) (gQ D cy B H0 (some (vI r)) M1) 0 0 (gA B) := sorry

/-! ## TideLots$Reader.both(I)Z -/
set_option maxRecDepth 20000 in
set_option maxRecDepth 20000 in
theorem gX6_both_X6_take : GoodIn wsX6_both (wsV RX6 79 RX6 yX6_take wsX6_take) := sorry

set_option maxRecDepth 20000 in
set_option maxRecDepth 20000 in
theorem gX6_both_X6_single : GoodIn wsX6_both (wsV RX6 276 RX6 yX6_single wsX6_single) := sorry

set_option maxRecDepth 20000 in
set_option maxRecDepth 20000 in
theorem gX6_both_X9_add : GoodIn wsX6_both (wsV RX6 273 RX9 yX9_add wsX9_add) := sorry

theorem i_X6_both_X6 : ∀ w ∈ u_ws RX6 TX6 9, w ∈ wsX6_both := sorry

theorem i_X6_both_X7 : ∀ w ∈ u_ws RX7 TX7 17, w ∈ wsX6_both := sorry

noncomputable def b_X6_both_59 (Z : Nat → Nat) (F : Nat → gMem → Nat → Int32 → Option (Int32 × gMem)) (M : gMem)  : Option (Int32 × gMem) :=
  some ((1 : Int32), M)
noncomputable def bb_X6_both_12 (Z : Nat → Nat) (F : Nat → gMem → Nat → Int32 → Option (Int32 × gMem)) (M : gMem) (x0 : Nat) (x1 : Int32) (x2 : Int32) : Option ((gMem × Int32) ⊕ (Int32 × gMem)) :=
  (if (400 : Int32) ≤ x2 then oI (b_X6_both_59 Z F M ) else ck (mT M x0 = 6) <| bd (f_X6_take M x0 ((some (Z 21)))) fun r2 M2 => (if r2 = 0 then oI (b_X6_both_59 Z F M2 ) else ck (mT M2 x0 = 6) <| bd (F 2 M2 x0 x1) fun r5 M5 => (if r5 = 0 then oI (some ((0 : Int32), M5)) else ck (mT M5 x0 = 6) <| dr ((mR M5 x0 2)) fun a8 => ck (mT M5 a8 = 7) <| dr ((mR M5 a8 10)) fun a11 => ck (mT M5 a11 = 8) <| bd (f_X9_add Z M5 a11 ((some (Z 21))) ((0 : Int32))) fun _ M10 => some (.inl (M10, (x2 + (1 : Int32)))))))
noncomputable def lp_X6_both_12 (Z : Nat → Nat) (F : Nat → gMem → Nat → Int32 → Option (Int32 × gMem)) (M : gMem) (x0 : Nat) (x1 : Int32) (x2 : Int32) : Option (Int32 × gMem) :=
  lp (fun (q : gMem × Int32) => bb_X6_both_12 Z F q.1 x0 x1 q.2) (M, x2)
noncomputable def b_X6_both_0 (Z : Nat → Nat) (F : Nat → gMem → Nat → Int32 → Option (Int32 × gMem)) (M : gMem) (x0 : Nat) (x1 : Int32) : Option (Int32 × gMem) :=
  ck (mT M x0 = 6) <| bd (F 2 M x0 x1) fun r14 M14 => (if r14 = 0 then some ((0 : Int32), M14) else lp_X6_both_12 Z F M14 x0 x1 ((0 : Int32)))
noncomputable def fr_X6_both (Z : Nat → Nat) (F : Nat → gMem → Nat → Int32 → Option (Int32 × gMem)) (M : gMem) (x0 : Nat) (x1 : Int32) : Option (Int32 × gMem) :=
  b_X6_both_0 Z F M x0 x1
set_option maxHeartbeats 4000000 in
set_option maxRecDepth 100000 in
theorem t_X6_both_59 (X : gX p s m args meth c D cy B (gSt Z B H0) RX6 cX6_both wsX6_both 3) (hr : meth.sig.returnType = (some .boolean)) {n0 : Nat} {F : Nat → gMem → Nat → Int32 → Option (Int32 × gMem)} (hF : hX6R l D cy B H0 Z n0 F) {Q : State → Prop} : ∀ (M : gMem)  (z : Int32 × gMem), b_X6_both_59 Z F M  = some z → (fun (r : Int32 × gMem) => Q = gMQ below D cy B H0 args s 0 0 (some (vI r.1)) r.2) z → gGo p l e (rX6R (n0 + 1)) s m args below meth c D cy B H0 3 0 0 Q 59 [] [] M := sorry

set_option maxHeartbeats 4000000 in
set_option maxRecDepth 100000 in
set_option maxHeartbeats 4000000 in
set_option maxRecDepth 100000 in
set_option maxHeartbeats 4000000 in
set_option maxRecDepth 100000 in
theorem t_X6_both_0 (X : gX p s m args meth c D cy B (gSt Z B H0) RX6 cX6_both wsX6_both 3) (hr : meth.sig.returnType = (some .boolean)) {n0 : Nat} {F : Nat → gMem → Nat → Int32 → Option (Int32 × gMem)} (hF : hX6R l D cy B H0 Z n0 F) {Q : State → Prop} : ∀ (M : gMem) (x0 : Nat) (x1 : Int32) (z : Int32 × gMem), b_X6_both_0 Z F M x0 x1 = some z → (fun (r : Int32 × gMem) => Q = gMQ below D cy B H0 args s 0 0 (some (vI r.1)) r.2) z → gGo p l e (rX6R (n0 + 1)) s m args below meth c D cy B H0 3 0 0 Q 0 [(0, vR (some x0)), (1, vI x1)] [] M := sorry

set_option maxHeartbeats 4000000 in
set_option maxRecDepth 100000 in
theorem mr_X6_both (l : Launch) {D : va_G} {cy : Nat → ClassId} {B : Nat} {H0 : Heap} {Z : Nat → Nat} {M M1 : gMem} {n0 : Nat} {F : Nat → gMem → Nat → Int32 → Option (Int32 × gMem)} (hF : hX6R l D cy B H0 Z n0 F) {x0 : Nat} {x1 : Int32} {r : Int32} (hf : fr_X6_both Z F M x0 x1 = some (r, M1)) : Met l yX6_both wsX6_both (rX6R (n0 + 1)) (va_Pc (Value.ref x0 :: List.map gv [vI x1]) (gPre D cy B H0 (gSt Z B H0) M)) (gQ D cy B H0 (some (vI r)) M1) 0 0 (gA B) := sorry

/-! ## TideLots$Reader.single(I)Z -/
set_option maxRecDepth 20000 in
set_option maxRecDepth 20000 in
theorem gX6_single_X6_sign : GoodIn wsX6_single (wsV RX6 43 RX6 yX6_sign wsX6_sign) := sorry

set_option maxRecDepth 20000 in
set_option maxRecDepth 20000 in
theorem gX6_single_Jx29ce0_ordinal_8abf5_u59X8 : GoodIn wsX6_single (va_wsU RX6 59 RX8 "java/lang/Enum" ⟨"TideLots$Sign", "ordinal", "()I"⟩ yJx29ce0_ordinal_8abf5 wsJx29ce0_ordinal_8abf5) := sorry

set_option maxRecDepth 20000 in
set_option maxRecDepth 20000 in
theorem gX6_single_X6_take : GoodIn wsX6_single (wsV RX6 79 RX6 yX6_take wsX6_take) := sorry

set_option maxRecDepth 20000 in
set_option maxRecDepth 20000 in
theorem gX6_single_X6_single : GoodIn wsX6_single (wsV RX6 276 RX6 yX6_single wsX6_single) := sorry

set_option maxRecDepth 20000 in
set_option maxRecDepth 20000 in
theorem gX6_single_X9_add : GoodIn wsX6_single (wsV RX6 273 RX9 yX9_add wsX9_add) := sorry

set_option maxRecDepth 20000 in
set_option maxRecDepth 20000 in
theorem gX6_single_X6_test : GoodIn wsX6_single (wsV RX6 208 RX6 yX6_test wsX6_test) := sorry

set_option maxRecDepth 20000 in
set_option maxRecDepth 20000 in
theorem gX6_single_X6_takeKnown : GoodIn wsX6_single (wsV RX6 179 RX6 yX6_takeKnown wsX6_takeKnown) := sorry

set_option maxRecDepth 20000 in
set_option maxRecDepth 20000 in
theorem gX6_single_X6_sum : GoodIn wsX6_single (wsV RX6 244 RX6 yX6_sum wsX6_sum) := sorry

set_option maxRecDepth 20000 in
set_option maxRecDepth 20000 in
theorem gX6_single_X6_comparedSum : GoodIn wsX6_single (wsV RX6 294 RX6 yX6_comparedSum wsX6_comparedSum) := sorry

theorem i_X6_single_X6 : ∀ w ∈ u_ws RX6 TX6 9, w ∈ wsX6_single := sorry

theorem i_X6_single_X7 : ∀ w ∈ u_ws RX7 TX7 17, w ∈ wsX6_single := sorry

noncomputable def b_X6_single_189 (Z : Nat → Nat) (F : Nat → gMem → Nat → Int32 → Option (Int32 × gMem)) (M : gMem) (s0 : Int32) : Option (Int32 × gMem) :=
  ck (s0 = 0 ∨ s0 = 1) <| some (s0, M)
noncomputable def b_X6_single_188 (Z : Nat → Nat) (F : Nat → gMem → Nat → Int32 → Option (Int32 × gMem)) (M : gMem)  : Option (Int32 × gMem) :=
  b_X6_single_189 Z F M ((0 : Int32))
noncomputable def b_X6_single_147 (Z : Nat → Nat) (F : Nat → gMem → Nat → Int32 → Option (Int32 × gMem)) (M : gMem)  : Option (Int32 × gMem) :=
  some ((0 : Int32), M)
noncomputable def b_X6_single_125 (Z : Nat → Nat) (F : Nat → gMem → Nat → Int32 → Option (Int32 × gMem)) (M : gMem) (s0 : Int32) : Option (Int32 × gMem) :=
  ck (s0 = 0 ∨ s0 = 1) <| some (s0, M)
noncomputable def b_X6_single_124 (Z : Nat → Nat) (F : Nat → gMem → Nat → Int32 → Option (Int32 × gMem)) (M : gMem)  : Option (Int32 × gMem) :=
  b_X6_single_125 Z F M ((0 : Int32))
noncomputable def b_X6_single_66 (Z : Nat → Nat) (F : Nat → gMem → Nat → Int32 → Option (Int32 × gMem)) (M : gMem)  : Option (Int32 × gMem) :=
  some ((0 : Int32), M)
noncomputable def b_X6_single_0 (Z : Nat → Nat) (F : Nat → gMem → Nat → Int32 → Option (Int32 × gMem)) (M : gMem) (x0 : Nat) (x1 : Int32) : Option (Int32 × gMem) :=
  ck (mT M x0 = 6) <| bd (f_X6_sign M x0) fun r3 M3 => dr (ordZ Z r3) fun o5 => (if (gSw o5) = (5 : Int32) then (if (8 : Int32) ≤ x1 then b_X6_single_66 Z F M3  else ck (mT M3 x0 = 6) <| bd (f_X6_take M3 x0 ((some (Z 20)))) fun r7 M7 => (if r7 = 0 then b_X6_single_66 Z F M7  else ck (mT M7 x0 = 6) <| bd (F 2 M7 x0 ((x1 + (1 : Int32)))) fun r9 M9 => (if r9 = 0 then b_X6_single_66 Z F M9  else ck (mT M9 x0 = 6) <| dr ((mR M9 x0 2)) fun a12 => ck (mT M9 a12 = 7) <| dr ((mR M9 a12 10)) fun a15 => ck (mT M9 a15 = 8) <| bd (f_X9_add Z M9 a15 ((some (Z 20))) ((0 : Int32))) fun _ M14 => some ((1 : Int32), M14)))) else (if (gSw o5) = (6 : Int32) then (if (8 : Int32) ≤ x1 then b_X6_single_124 Z F M3  else ck (mT M3 x0 = 6) <| bd (f_X6_take M3 x0 ((some (Z 27)))) fun r18 M18 => (if r18 = 0 then b_X6_single_124 Z F M18  else ck (mT M18 x0 = 6) <| bd (F 0 M18 x0 ((x1 + (1 : Int32)))) fun r20 M20 => (if r20 = 0 then b_X6_single_124 Z F M20  else ck (mT M20 x0 = 6) <| bd (f_X6_take M20 x0 ((some (Z 28)))) fun r22 M22 => (if r22 = 0 then b_X6_single_124 Z F M22  else b_X6_single_125 Z F M22 ((1 : Int32)))))) else (if (gSw o5) = (7 : Int32) then ck (mT M3 x0 = 6) <| bd (f_X6_take M3 x0 ((some (Z 19)))) fun r25 M25 => (if r25 = 0 then b_X6_single_147 Z F M25  else ck (mT M25 x0 = 6) <| bd (f_X6_takeKnown Z M25 x0 ((mR M25 x0 4))) fun r28 M28 => (if r28 = 0 then b_X6_single_147 Z F M28  else ck (mT M28 x0 = 6) <| dr ((mR M28 x0 2)) fun a30 => ck (mT M28 a30 = 7) <| dr ((mR M28 a30 10)) fun a33 => ck (mT M28 a33 = 8) <| bd (f_X9_add Z M28 a33 ((some (Z 19))) ((mI M28 x0 8))) fun _ M32 => some ((1 : Int32), M32))) else ck (mT M3 x0 = 6) <| bd (F 4 M3 x0 x1) fun r35 M35 => (if r35 = 0 then b_X6_single_188 Z F M35  else ck (mT M35 x0 = 6) <| bd (F 3 M35 x0 x1) fun r37 M37 => (if r37 = 0 then b_X6_single_188 Z F M37  else b_X6_single_189 Z F M37 ((1 : Int32)))))))
noncomputable def fr_X6_single (Z : Nat → Nat) (F : Nat → gMem → Nat → Int32 → Option (Int32 × gMem)) (M : gMem) (x0 : Nat) (x1 : Int32) : Option (Int32 × gMem) :=
  b_X6_single_0 Z F M x0 x1
set_option maxHeartbeats 4000000 in
set_option maxRecDepth 100000 in
theorem t_X6_single_189 (X : gX p s m args meth c D cy B (gSt Z B H0) RX6 cX6_single wsX6_single 3) (hr : meth.sig.returnType = (some .boolean)) {n0 : Nat} {F : Nat → gMem → Nat → Int32 → Option (Int32 × gMem)} (hF : hX6R l D cy B H0 Z n0 F) {Q : State → Prop} : ∀ (M : gMem) (s0 : Int32) (z : Int32 × gMem), b_X6_single_189 Z F M s0 = some z → (fun (r : Int32 × gMem) => Q = gMQ below D cy B H0 args s 0 0 (some (vI r.1)) r.2) z → gGo p l e (rX6R (n0 + 1)) s m args below meth c D cy B H0 3 0 0 Q 189 [] [vI s0] M := sorry

set_option maxHeartbeats 4000000 in
set_option maxRecDepth 100000 in
theorem t_X6_single_188 (X : gX p s m args meth c D cy B (gSt Z B H0) RX6 cX6_single wsX6_single 3) (hr : meth.sig.returnType = (some .boolean)) {n0 : Nat} {F : Nat → gMem → Nat → Int32 → Option (Int32 × gMem)} (hF : hX6R l D cy B H0 Z n0 F) {Q : State → Prop} : ∀ (M : gMem)  (z : Int32 × gMem), b_X6_single_188 Z F M  = some z → (fun (r : Int32 × gMem) => Q = gMQ below D cy B H0 args s 0 0 (some (vI r.1)) r.2) z → gGo p l e (rX6R (n0 + 1)) s m args below meth c D cy B H0 3 0 0 Q 188 [] [] M := sorry

set_option maxHeartbeats 4000000 in
set_option maxRecDepth 100000 in
theorem t_X6_single_147 (X : gX p s m args meth c D cy B (gSt Z B H0) RX6 cX6_single wsX6_single 3) (hr : meth.sig.returnType = (some .boolean)) {n0 : Nat} {F : Nat → gMem → Nat → Int32 → Option (Int32 × gMem)} (hF : hX6R l D cy B H0 Z n0 F) {Q : State → Prop} : ∀ (M : gMem)  (z : Int32 × gMem), b_X6_single_147 Z F M  = some z → (fun (r : Int32 × gMem) => Q = gMQ below D cy B H0 args s 0 0 (some (vI r.1)) r.2) z → gGo p l e (rX6R (n0 + 1)) s m args below meth c D cy B H0 3 0 0 Q 147 [] [] M := sorry

set_option maxHeartbeats 4000000 in
set_option maxRecDepth 100000 in
theorem t_X6_single_125 (X : gX p s m args meth c D cy B (gSt Z B H0) RX6 cX6_single wsX6_single 3) (hr : meth.sig.returnType = (some .boolean)) {n0 : Nat} {F : Nat → gMem → Nat → Int32 → Option (Int32 × gMem)} (hF : hX6R l D cy B H0 Z n0 F) {Q : State → Prop} : ∀ (M : gMem) (s0 : Int32) (z : Int32 × gMem), b_X6_single_125 Z F M s0 = some z → (fun (r : Int32 × gMem) => Q = gMQ below D cy B H0 args s 0 0 (some (vI r.1)) r.2) z → gGo p l e (rX6R (n0 + 1)) s m args below meth c D cy B H0 3 0 0 Q 125 [] [vI s0] M := sorry

set_option maxHeartbeats 4000000 in
set_option maxRecDepth 100000 in
theorem t_X6_single_124 (X : gX p s m args meth c D cy B (gSt Z B H0) RX6 cX6_single wsX6_single 3) (hr : meth.sig.returnType = (some .boolean)) {n0 : Nat} {F : Nat → gMem → Nat → Int32 → Option (Int32 × gMem)} (hF : hX6R l D cy B H0 Z n0 F) {Q : State → Prop} : ∀ (M : gMem)  (z : Int32 × gMem), b_X6_single_124 Z F M  = some z → (fun (r : Int32 × gMem) => Q = gMQ below D cy B H0 args s 0 0 (some (vI r.1)) r.2) z → gGo p l e (rX6R (n0 + 1)) s m args below meth c D cy B H0 3 0 0 Q 124 [] [] M := sorry

set_option maxHeartbeats 4000000 in
set_option maxRecDepth 100000 in
theorem t_X6_single_66 (X : gX p s m args meth c D cy B (gSt Z B H0) RX6 cX6_single wsX6_single 3) (hr : meth.sig.returnType = (some .boolean)) {n0 : Nat} {F : Nat → gMem → Nat → Int32 → Option (Int32 × gMem)} (hF : hX6R l D cy B H0 Z n0 F) {Q : State → Prop} : ∀ (M : gMem)  (z : Int32 × gMem), b_X6_single_66 Z F M  = some z → (fun (r : Int32 × gMem) => Q = gMQ below D cy B H0 args s 0 0 (some (vI r.1)) r.2) z → gGo p l e (rX6R (n0 + 1)) s m args below meth c D cy B H0 3 0 0 Q 66 [] [] M := sorry

set_option maxHeartbeats 4000000 in
set_option maxRecDepth 100000 in
theorem t_X6_single_0 (X : gX p s m args meth c D cy B (gSt Z B H0) RX6 cX6_single wsX6_single 3) (hr : meth.sig.returnType = (some .boolean)) {n0 : Nat} {F : Nat → gMem → Nat → Int32 → Option (Int32 × gMem)} (hF : hX6R l D cy B H0 Z n0 F) {Q : State → Prop} : ∀ (M : gMem) (x0 : Nat) (x1 : Int32) (z : Int32 × gMem), b_X6_single_0 Z F M x0 x1 = some z → (fun (r : Int32 × gMem) => Q = gMQ below D cy B H0 args s 0 0 (some (vI r.1)) r.2) z → gGo p l e (rX6R (n0 + 1)) s m args below meth c D cy B H0 3 0 0 Q 0 [(0, vR (some x0)), (1, vI x1)] [] M := sorry

set_option maxHeartbeats 4000000 in
set_option maxRecDepth 100000 in
theorem mr_X6_single (l : Launch) {D : va_G} {cy : Nat → ClassId} {B : Nat} {H0 : Heap} {Z : Nat → Nat} {M M1 : gMem} {n0 : Nat} {F : Nat → gMem → Nat → Int32 → Option (Int32 × gMem)} (hF : hX6R l D cy B H0 Z n0 F) {x0 : Nat} {x1 : Int32} {r : Int32} (hf : fr_X6_single Z F M x0 x1 = some (r, M1)) : Met l yX6_single wsX6_single (rX6R (n0 + 1)) (va_Pc (Value.ref x0 :: List.map gv [vI x1]) (gPre D cy B H0 (gSt Z B H0) M)) (gQ D cy B H0 (some (vI r)) M1) 0 0 (gA B) := sorry

/-! ## TideLots$Reader.comparedSum(I)Z -/
set_option maxRecDepth 20000 in
set_option maxRecDepth 20000 in
theorem gX6_comparedSum_X6_take : GoodIn wsX6_comparedSum (wsV RX6 79 RX6 yX6_take wsX6_take) := sorry

set_option maxRecDepth 20000 in
set_option maxRecDepth 20000 in
theorem gX6_comparedSum_X6_sum : GoodIn wsX6_comparedSum (wsV RX6 244 RX6 yX6_sum wsX6_sum) := sorry

set_option maxRecDepth 20000 in
set_option maxRecDepth 20000 in
theorem gX6_comparedSum_X9_add : GoodIn wsX6_comparedSum (wsV RX6 273 RX9 yX9_add wsX9_add) := sorry

set_option maxRecDepth 20000 in
set_option maxRecDepth 20000 in
theorem gX6_comparedSum_X6_sign : GoodIn wsX6_comparedSum (wsV RX6 43 RX6 yX6_sign wsX6_sign) := sorry

set_option maxRecDepth 20000 in
set_option maxRecDepth 20000 in
theorem gX6_comparedSum_Jx29ce0_ordinal_8abf5_u59X8 : GoodIn wsX6_comparedSum (va_wsU RX6 59 RX8 "java/lang/Enum" ⟨"TideLots$Sign", "ordinal", "()I"⟩ yJx29ce0_ordinal_8abf5 wsJx29ce0_ordinal_8abf5) := sorry

theorem i_X6_comparedSum_X6 : ∀ w ∈ u_ws RX6 TX6 9, w ∈ wsX6_comparedSum := sorry

theorem i_X6_comparedSum_X7 : ∀ w ∈ u_ws RX7 TX7 17, w ∈ wsX6_comparedSum := sorry

noncomputable def b_X6_comparedSum_64 (Z : Nat → Nat) (F : Nat → gMem → Nat → Int32 → Option (Int32 × gMem)) (M : gMem)  : Option (Int32 × gMem) :=
  some ((0 : Int32), M)
noncomputable def b_X6_comparedSum_48 (Z : Nat → Nat) (F : Nat → gMem → Nat → Int32 → Option (Int32 × gMem)) (M : gMem) (x0 : Nat) (x1 : Int32) (x2 : Option Nat) : Option (Int32 × gMem) :=
  ck (mT M x0 = 6) <| bd (f_X6_take M x0 x2) fun r1 M1 => (if r1 = 0 then b_X6_comparedSum_64 Z F M1  else ck (mT M1 x0 = 6) <| bd (F 4 M1 x0 x1) fun r3 M3 => (if r3 = 0 then b_X6_comparedSum_64 Z F M3  else ck (mT M3 x0 = 6) <| dr ((mR M3 x0 2)) fun a6 => ck (mT M3 a6 = 7) <| dr ((mR M3 a6 10)) fun a9 => ck (mT M3 a9 = 8) <| bd (f_X9_add Z M3 a9 x2 ((0 : Int32))) fun _ M8 => some ((1 : Int32), M8)))
noncomputable def b_X6_comparedSum_0 (Z : Nat → Nat) (F : Nat → gMem → Nat → Int32 → Option (Int32 × gMem)) (M : gMem) (x0 : Nat) (x1 : Int32) : Option (Int32 × gMem) :=
  ck (mT M x0 = 6) <| bd (f_X6_sign M x0) fun r11 M11 => dr (ordZ Z r11) fun o13 => (if (gSw o13) = (8 : Int32) then b_X6_comparedSum_48 Z F M11 x0 x1 r11 else (if (gSw o13) = (9 : Int32) then b_X6_comparedSum_48 Z F M11 x0 x1 r11 else (if (gSw o13) = (10 : Int32) then b_X6_comparedSum_48 Z F M11 x0 x1 r11 else (if (gSw o13) = (11 : Int32) then b_X6_comparedSum_48 Z F M11 x0 x1 r11 else (if (gSw o13) = (12 : Int32) then b_X6_comparedSum_48 Z F M11 x0 x1 r11 else some ((0 : Int32), M11))))))
noncomputable def fr_X6_comparedSum (Z : Nat → Nat) (F : Nat → gMem → Nat → Int32 → Option (Int32 × gMem)) (M : gMem) (x0 : Nat) (x1 : Int32) : Option (Int32 × gMem) :=
  b_X6_comparedSum_0 Z F M x0 x1
set_option maxHeartbeats 4000000 in
set_option maxRecDepth 100000 in
theorem t_X6_comparedSum_64 (X : gX p s m args meth c D cy B (gSt Z B H0) RX6 cX6_comparedSum wsX6_comparedSum 3) (hr : meth.sig.returnType = (some .boolean)) {n0 : Nat} {F : Nat → gMem → Nat → Int32 → Option (Int32 × gMem)} (hF : hX6R l D cy B H0 Z n0 F) {Q : State → Prop} : ∀ (M : gMem)  (z : Int32 × gMem), b_X6_comparedSum_64 Z F M  = some z → (fun (r : Int32 × gMem) => Q = gMQ below D cy B H0 args s 0 0 (some (vI r.1)) r.2) z → gGo p l e (rX6R (n0 + 1)) s m args below meth c D cy B H0 3 0 0 Q 64 [] [] M := sorry

set_option maxHeartbeats 4000000 in
set_option maxRecDepth 100000 in
theorem t_X6_comparedSum_48 (X : gX p s m args meth c D cy B (gSt Z B H0) RX6 cX6_comparedSum wsX6_comparedSum 3) (hr : meth.sig.returnType = (some .boolean)) {n0 : Nat} {F : Nat → gMem → Nat → Int32 → Option (Int32 × gMem)} (hF : hX6R l D cy B H0 Z n0 F) {Q : State → Prop} : ∀ (M : gMem) (x0 : Nat) (x1 : Int32) (x2 : Option Nat) (z : Int32 × gMem), b_X6_comparedSum_48 Z F M x0 x1 x2 = some z → (fun (r : Int32 × gMem) => Q = gMQ below D cy B H0 args s 0 0 (some (vI r.1)) r.2) z → gGo p l e (rX6R (n0 + 1)) s m args below meth c D cy B H0 3 0 0 Q 48 [(0, vR (some x0)), (1, vI x1), (2, vR x2)] [] M := sorry

set_option maxHeartbeats 4000000 in
set_option maxRecDepth 100000 in
theorem t_X6_comparedSum_0 (X : gX p s m args meth c D cy B (gSt Z B H0) RX6 cX6_comparedSum wsX6_comparedSum 3) (hr : meth.sig.returnType = (some .boolean)) {n0 : Nat} {F : Nat → gMem → Nat → Int32 → Option (Int32 × gMem)} (hF : hX6R l D cy B H0 Z n0 F) {Q : State → Prop} : ∀ (M : gMem) (x0 : Nat) (x1 : Int32) (z : Int32 × gMem), b_X6_comparedSum_0 Z F M x0 x1 = some z → (fun (r : Int32 × gMem) => Q = gMQ below D cy B H0 args s 0 0 (some (vI r.1)) r.2) z → gGo p l e (rX6R (n0 + 1)) s m args below meth c D cy B H0 3 0 0 Q 0 [(0, vR (some x0)), (1, vI x1)] [] M := sorry

set_option maxHeartbeats 4000000 in
set_option maxRecDepth 100000 in
theorem mr_X6_comparedSum (l : Launch) {D : va_G} {cy : Nat → ClassId} {B : Nat} {H0 : Heap} {Z : Nat → Nat} {M M1 : gMem} {n0 : Nat} {F : Nat → gMem → Nat → Int32 → Option (Int32 × gMem)} (hF : hX6R l D cy B H0 Z n0 F) {x0 : Nat} {x1 : Int32} {r : Int32} (hf : fr_X6_comparedSum Z F M x0 x1 = some (r, M1)) : Met l yX6_comparedSum wsX6_comparedSum (rX6R (n0 + 1)) (va_Pc (Value.ref x0 :: List.map gv [vI x1]) (gPre D cy B H0 (gSt Z B H0) M)) (gQ D cy B H0 (some (vI r)) M1) 0 0 (gA B) := sorry

/-! ## TideLots$Reader.sum(I)Z -/
set_option maxRecDepth 20000 in
set_option maxRecDepth 20000 in
theorem gX6_sum_X6_sign : GoodIn wsX6_sum (wsV RX6 43 RX6 yX6_sign wsX6_sign) := sorry

set_option maxRecDepth 20000 in
set_option maxRecDepth 20000 in
theorem gX6_sum_X6_take : GoodIn wsX6_sum (wsV RX6 79 RX6 yX6_take wsX6_take) := sorry

set_option maxRecDepth 20000 in
set_option maxRecDepth 20000 in
theorem gX6_sum_X6_product : GoodIn wsX6_sum (wsV RX6 297 RX6 yX6_product wsX6_product) := sorry

set_option maxRecDepth 20000 in
set_option maxRecDepth 20000 in
theorem gX6_sum_X9_add : GoodIn wsX6_sum (wsV RX6 273 RX9 yX9_add wsX9_add) := sorry

theorem i_X6_sum_X6 : ∀ w ∈ u_ws RX6 TX6 9, w ∈ wsX6_sum := sorry

theorem i_X6_sum_X7 : ∀ w ∈ u_ws RX7 TX7 17, w ∈ wsX6_sum := sorry

noncomputable def b_X6_sum_80 (Z : Nat → Nat) (F : Nat → gMem → Nat → Int32 → Option (Int32 × gMem)) (M : gMem)  : Option (Int32 × gMem) :=
  some ((1 : Int32), M)
noncomputable def b_X6_sum_60 (Z : Nat → Nat) (F : Nat → gMem → Nat → Int32 → Option (Int32 × gMem)) (M : gMem)  : Option (Int32 × gMem) :=
  some ((0 : Int32), M)
noncomputable def b_X6_sum_39 (Z : Nat → Nat) (F : Nat → gMem → Nat → Int32 → Option (Int32 × gMem)) (M : gMem) (x0 : Nat) (x1 : Int32) (x2 : Int32) : Option ((gMem × Int32) ⊕ (Int32 × gMem)) :=
  ck (mT M x0 = 6) <| bd (f_X6_sign M x0) fun r1 M1 => ck (mT M1 x0 = 6) <| bd (f_X6_take M1 x0 r1) fun r3 M3 => (if r3 = 0 then oI (b_X6_sum_60 Z F M3 ) else ck (mT M3 x0 = 6) <| bd (F 5 M3 x0 x1) fun r6 M6 => (if r6 = 0 then oI (b_X6_sum_60 Z F M6 ) else ck (mT M6 x0 = 6) <| dr ((mR M6 x0 2)) fun a9 => ck (mT M6 a9 = 7) <| dr ((mR M6 a9 10)) fun a12 => ck (mT M6 a12 = 8) <| bd (f_X9_add Z M6 a12 r1 ((0 : Int32))) fun _ M11 => some (.inl (M11, (x2 + (1 : Int32))))))
noncomputable def bb_X6_sum_12 (Z : Nat → Nat) (F : Nat → gMem → Nat → Int32 → Option (Int32 × gMem)) (M : gMem) (x0 : Nat) (x1 : Int32) (x2 : Int32) : Option ((gMem × Int32) ⊕ (Int32 × gMem)) :=
  (if (400 : Int32) ≤ x2 then oI (b_X6_sum_80 Z F M ) else ck (mT M x0 = 6) <| bd (f_X6_sign M x0) fun r16 M16 => (if r16 = (some (Z 31)) then b_X6_sum_39 Z F M16 x0 x1 x2 else ck (mT M16 x0 = 6) <| bd (f_X6_sign M16 x0) fun r18 M18 => (if r18 = (some (Z 32)) then b_X6_sum_39 Z F M18 x0 x1 x2 else oI (b_X6_sum_80 Z F M18 ))))
noncomputable def lp_X6_sum_12 (Z : Nat → Nat) (F : Nat → gMem → Nat → Int32 → Option (Int32 × gMem)) (M : gMem) (x0 : Nat) (x1 : Int32) (x2 : Int32) : Option (Int32 × gMem) :=
  lp (fun (q : gMem × Int32) => bb_X6_sum_12 Z F q.1 x0 x1 q.2) (M, x2)
noncomputable def b_X6_sum_0 (Z : Nat → Nat) (F : Nat → gMem → Nat → Int32 → Option (Int32 × gMem)) (M : gMem) (x0 : Nat) (x1 : Int32) : Option (Int32 × gMem) :=
  ck (mT M x0 = 6) <| bd (F 5 M x0 x1) fun r21 M21 => (if r21 = 0 then some ((0 : Int32), M21) else lp_X6_sum_12 Z F M21 x0 x1 ((0 : Int32)))
noncomputable def fr_X6_sum (Z : Nat → Nat) (F : Nat → gMem → Nat → Int32 → Option (Int32 × gMem)) (M : gMem) (x0 : Nat) (x1 : Int32) : Option (Int32 × gMem) :=
  b_X6_sum_0 Z F M x0 x1
set_option maxHeartbeats 4000000 in
set_option maxRecDepth 100000 in
theorem t_X6_sum_80 (X : gX p s m args meth c D cy B (gSt Z B H0) RX6 cX6_sum wsX6_sum 4) (hr : meth.sig.returnType = (some .boolean)) {n0 : Nat} {F : Nat → gMem → Nat → Int32 → Option (Int32 × gMem)} (hF : hX6R l D cy B H0 Z n0 F) {Q : State → Prop} : ∀ (M : gMem)  (z : Int32 × gMem), b_X6_sum_80 Z F M  = some z → (fun (r : Int32 × gMem) => Q = gMQ below D cy B H0 args s 0 0 (some (vI r.1)) r.2) z → gGo p l e (rX6R (n0 + 1)) s m args below meth c D cy B H0 4 0 0 Q 80 [] [] M := sorry

set_option maxHeartbeats 4000000 in
set_option maxRecDepth 100000 in
theorem t_X6_sum_60 (X : gX p s m args meth c D cy B (gSt Z B H0) RX6 cX6_sum wsX6_sum 4) (hr : meth.sig.returnType = (some .boolean)) {n0 : Nat} {F : Nat → gMem → Nat → Int32 → Option (Int32 × gMem)} (hF : hX6R l D cy B H0 Z n0 F) {Q : State → Prop} : ∀ (M : gMem)  (z : Int32 × gMem), b_X6_sum_60 Z F M  = some z → (fun (r : Int32 × gMem) => Q = gMQ below D cy B H0 args s 0 0 (some (vI r.1)) r.2) z → gGo p l e (rX6R (n0 + 1)) s m args below meth c D cy B H0 4 0 0 Q 60 [] [] M := sorry

set_option maxHeartbeats 4000000 in
set_option maxRecDepth 100000 in
theorem t_X6_sum_39 (X : gX p s m args meth c D cy B (gSt Z B H0) RX6 cX6_sum wsX6_sum 4) (hr : meth.sig.returnType = (some .boolean)) {n0 : Nat} {F : Nat → gMem → Nat → Int32 → Option (Int32 × gMem)} (hF : hX6R l D cy B H0 Z n0 F) {Q : State → Prop} : ∀ (M : gMem) (x0 : Nat) (x1 : Int32) (x2 : Int32) (z : (gMem × Int32) ⊕ (Int32 × gMem)), b_X6_sum_39 Z F M x0 x1 x2 = some z → (Sum.elim (fun (q : gMem × Int32) => gGo p l e (rX6R (n0 + 1)) s m args below meth c D cy B H0 4 0 0 Q 12 [(0, vR (some x0)), (1, vI x1), (2, vI q.2)] [] q.1) (fun (r : Int32 × gMem) => Q = gMQ below D cy B H0 args s 0 0 (some (vI r.1)) r.2)) z → gGo p l e (rX6R (n0 + 1)) s m args below meth c D cy B H0 4 0 0 Q 39 [(0, vR (some x0)), (1, vI x1), (2, vI x2)] [] M := sorry

set_option maxHeartbeats 4000000 in
set_option maxRecDepth 100000 in
set_option maxHeartbeats 4000000 in
set_option maxRecDepth 100000 in
set_option maxHeartbeats 4000000 in
set_option maxRecDepth 100000 in
theorem t_X6_sum_0 (X : gX p s m args meth c D cy B (gSt Z B H0) RX6 cX6_sum wsX6_sum 4) (hr : meth.sig.returnType = (some .boolean)) {n0 : Nat} {F : Nat → gMem → Nat → Int32 → Option (Int32 × gMem)} (hF : hX6R l D cy B H0 Z n0 F) {Q : State → Prop} : ∀ (M : gMem) (x0 : Nat) (x1 : Int32) (z : Int32 × gMem), b_X6_sum_0 Z F M x0 x1 = some z → (fun (r : Int32 × gMem) => Q = gMQ below D cy B H0 args s 0 0 (some (vI r.1)) r.2) z → gGo p l e (rX6R (n0 + 1)) s m args below meth c D cy B H0 4 0 0 Q 0 [(0, vR (some x0)), (1, vI x1)] [] M := sorry

set_option maxHeartbeats 4000000 in
set_option maxRecDepth 100000 in
theorem mr_X6_sum (l : Launch) {D : va_G} {cy : Nat → ClassId} {B : Nat} {H0 : Heap} {Z : Nat → Nat} {M M1 : gMem} {n0 : Nat} {F : Nat → gMem → Nat → Int32 → Option (Int32 × gMem)} (hF : hX6R l D cy B H0 Z n0 F) {x0 : Nat} {x1 : Int32} {r : Int32} (hf : fr_X6_sum Z F M x0 x1 = some (r, M1)) : Met l yX6_sum wsX6_sum (rX6R (n0 + 1)) (va_Pc (Value.ref x0 :: List.map gv [vI x1]) (gPre D cy B H0 (gSt Z B H0) M)) (gQ D cy B H0 (some (vI r)) M1) 0 0 (gA B) := sorry

/-! ## TideLots$Reader.product(I)Z -/
set_option maxRecDepth 20000 in
set_option maxRecDepth 20000 in
theorem gX6_product_X6_sign : GoodIn wsX6_product (wsV RX6 43 RX6 yX6_sign wsX6_sign) := sorry

set_option maxRecDepth 20000 in
set_option maxRecDepth 20000 in
theorem gX6_product_X6_take : GoodIn wsX6_product (wsV RX6 79 RX6 yX6_take wsX6_take) := sorry

set_option maxRecDepth 20000 in
set_option maxRecDepth 20000 in
theorem gX6_product_X6_value : GoodIn wsX6_product (wsV RX6 306 RX6 yX6_value wsX6_value) := sorry

set_option maxRecDepth 20000 in
set_option maxRecDepth 20000 in
theorem gX6_product_X9_add : GoodIn wsX6_product (wsV RX6 273 RX9 yX9_add wsX9_add) := sorry

theorem i_X6_product_X6 : ∀ w ∈ u_ws RX6 TX6 9, w ∈ wsX6_product := sorry

theorem i_X6_product_X7 : ∀ w ∈ u_ws RX7 TX7 17, w ∈ wsX6_product := sorry

noncomputable def b_X6_product_80 (Z : Nat → Nat) (F : Nat → gMem → Nat → Int32 → Option (Int32 × gMem)) (M : gMem)  : Option (Int32 × gMem) :=
  some ((1 : Int32), M)
noncomputable def b_X6_product_60 (Z : Nat → Nat) (F : Nat → gMem → Nat → Int32 → Option (Int32 × gMem)) (M : gMem)  : Option (Int32 × gMem) :=
  some ((0 : Int32), M)
noncomputable def b_X6_product_39 (Z : Nat → Nat) (F : Nat → gMem → Nat → Int32 → Option (Int32 × gMem)) (M : gMem) (x0 : Nat) (x1 : Int32) (x2 : Int32) : Option ((gMem × Int32) ⊕ (Int32 × gMem)) :=
  ck (mT M x0 = 6) <| bd (f_X6_sign M x0) fun r1 M1 => ck (mT M1 x0 = 6) <| bd (f_X6_take M1 x0 r1) fun r3 M3 => (if r3 = 0 then oI (b_X6_product_60 Z F M3 ) else ck (mT M3 x0 = 6) <| bd (F 6 M3 x0 x1) fun r6 M6 => (if r6 = 0 then oI (b_X6_product_60 Z F M6 ) else ck (mT M6 x0 = 6) <| dr ((mR M6 x0 2)) fun a9 => ck (mT M6 a9 = 7) <| dr ((mR M6 a9 10)) fun a12 => ck (mT M6 a12 = 8) <| bd (f_X9_add Z M6 a12 r1 ((0 : Int32))) fun _ M11 => some (.inl (M11, (x2 + (1 : Int32))))))
noncomputable def bb_X6_product_12 (Z : Nat → Nat) (F : Nat → gMem → Nat → Int32 → Option (Int32 × gMem)) (M : gMem) (x0 : Nat) (x1 : Int32) (x2 : Int32) : Option ((gMem × Int32) ⊕ (Int32 × gMem)) :=
  (if (400 : Int32) ≤ x2 then oI (b_X6_product_80 Z F M ) else ck (mT M x0 = 6) <| bd (f_X6_sign M x0) fun r16 M16 => (if r16 = (some (Z 33)) then b_X6_product_39 Z F M16 x0 x1 x2 else ck (mT M16 x0 = 6) <| bd (f_X6_sign M16 x0) fun r18 M18 => (if r18 = (some (Z 34)) then b_X6_product_39 Z F M18 x0 x1 x2 else oI (b_X6_product_80 Z F M18 ))))
noncomputable def lp_X6_product_12 (Z : Nat → Nat) (F : Nat → gMem → Nat → Int32 → Option (Int32 × gMem)) (M : gMem) (x0 : Nat) (x1 : Int32) (x2 : Int32) : Option (Int32 × gMem) :=
  lp (fun (q : gMem × Int32) => bb_X6_product_12 Z F q.1 x0 x1 q.2) (M, x2)
noncomputable def b_X6_product_0 (Z : Nat → Nat) (F : Nat → gMem → Nat → Int32 → Option (Int32 × gMem)) (M : gMem) (x0 : Nat) (x1 : Int32) : Option (Int32 × gMem) :=
  ck (mT M x0 = 6) <| bd (F 6 M x0 x1) fun r21 M21 => (if r21 = 0 then some ((0 : Int32), M21) else lp_X6_product_12 Z F M21 x0 x1 ((0 : Int32)))
noncomputable def fr_X6_product (Z : Nat → Nat) (F : Nat → gMem → Nat → Int32 → Option (Int32 × gMem)) (M : gMem) (x0 : Nat) (x1 : Int32) : Option (Int32 × gMem) :=
  b_X6_product_0 Z F M x0 x1
set_option maxHeartbeats 4000000 in
set_option maxRecDepth 100000 in
theorem t_X6_product_80 (X : gX p s m args meth c D cy B (gSt Z B H0) RX6 cX6_product wsX6_product 4) (hr : meth.sig.returnType = (some .boolean)) {n0 : Nat} {F : Nat → gMem → Nat → Int32 → Option (Int32 × gMem)} (hF : hX6R l D cy B H0 Z n0 F) {Q : State → Prop} : ∀ (M : gMem)  (z : Int32 × gMem), b_X6_product_80 Z F M  = some z → (fun (r : Int32 × gMem) => Q = gMQ below D cy B H0 args s 0 0 (some (vI r.1)) r.2) z → gGo p l e (rX6R (n0 + 1)) s m args below meth c D cy B H0 4 0 0 Q 80 [] [] M := sorry

set_option maxHeartbeats 4000000 in
set_option maxRecDepth 100000 in
theorem t_X6_product_60 (X : gX p s m args meth c D cy B (gSt Z B H0) RX6 cX6_product wsX6_product 4) (hr : meth.sig.returnType = (some .boolean)) {n0 : Nat} {F : Nat → gMem → Nat → Int32 → Option (Int32 × gMem)} (hF : hX6R l D cy B H0 Z n0 F) {Q : State → Prop} : ∀ (M : gMem)  (z : Int32 × gMem), b_X6_product_60 Z F M  = some z → (fun (r : Int32 × gMem) => Q = gMQ below D cy B H0 args s 0 0 (some (vI r.1)) r.2) z → gGo p l e (rX6R (n0 + 1)) s m args below meth c D cy B H0 4 0 0 Q 60 [] [] M := sorry

set_option maxHeartbeats 4000000 in
set_option maxRecDepth 100000 in
theorem t_X6_product_39 (X : gX p s m args meth c D cy B (gSt Z B H0) RX6 cX6_product wsX6_product 4) (hr : meth.sig.returnType = (some .boolean)) {n0 : Nat} {F : Nat → gMem → Nat → Int32 → Option (Int32 × gMem)} (hF : hX6R l D cy B H0 Z n0 F) {Q : State → Prop} : ∀ (M : gMem) (x0 : Nat) (x1 : Int32) (x2 : Int32) (z : (gMem × Int32) ⊕ (Int32 × gMem)), b_X6_product_39 Z F M x0 x1 x2 = some z → (Sum.elim (fun (q : gMem × Int32) => gGo p l e (rX6R (n0 + 1)) s m args below meth c D cy B H0 4 0 0 Q 12 [(0, vR (some x0)), (1, vI x1), (2, vI q.2)] [] q.1) (fun (r : Int32 × gMem) => Q = gMQ below D cy B H0 args s 0 0 (some (vI r.1)) r.2)) z → gGo p l e (rX6R (n0 + 1)) s m args below meth c D cy B H0 4 0 0 Q 39 [(0, vR (some x0)), (1, vI x1), (2, vI x2)] [] M := sorry

set_option maxHeartbeats 4000000 in
set_option maxRecDepth 100000 in
set_option maxHeartbeats 4000000 in
set_option maxRecDepth 100000 in
set_option maxHeartbeats 4000000 in
set_option maxRecDepth 100000 in
theorem t_X6_product_0 (X : gX p s m args meth c D cy B (gSt Z B H0) RX6 cX6_product wsX6_product 4) (hr : meth.sig.returnType = (some .boolean)) {n0 : Nat} {F : Nat → gMem → Nat → Int32 → Option (Int32 × gMem)} (hF : hX6R l D cy B H0 Z n0 F) {Q : State → Prop} : ∀ (M : gMem) (x0 : Nat) (x1 : Int32) (z : Int32 × gMem), b_X6_product_0 Z F M x0 x1 = some z → (fun (r : Int32 × gMem) => Q = gMQ below D cy B H0 args s 0 0 (some (vI r.1)) r.2) z → gGo p l e (rX6R (n0 + 1)) s m args below meth c D cy B H0 4 0 0 Q 0 [(0, vR (some x0)), (1, vI x1)] [] M := sorry

set_option maxHeartbeats 4000000 in
set_option maxRecDepth 100000 in
theorem mr_X6_product (l : Launch) {D : va_G} {cy : Nat → ClassId} {B : Nat} {H0 : Heap} {Z : Nat → Nat} {M M1 : gMem} {n0 : Nat} {F : Nat → gMem → Nat → Int32 → Option (Int32 × gMem)} (hF : hX6R l D cy B H0 Z n0 F) {x0 : Nat} {x1 : Int32} {r : Int32} (hf : fr_X6_product Z F M x0 x1 = some (r, M1)) : Met l yX6_product wsX6_product (rX6R (n0 + 1)) (va_Pc (Value.ref x0 :: List.map gv [vI x1]) (gPre D cy B H0 (gSt Z B H0) M)) (gQ D cy B H0 (some (vI r)) M1) 0 0 (gA B) := sorry

/-! ## TideLots$Reader.value(I)Z -/
set_option maxRecDepth 20000 in
set_option maxRecDepth 20000 in
theorem gX6_value_X9_add : GoodIn wsX6_value (wsV RX6 273 RX9 yX9_add wsX9_add) := sorry

set_option maxRecDepth 20000 in
set_option maxRecDepth 20000 in
theorem gX6_value_X6_take : GoodIn wsX6_value (wsV RX6 79 RX6 yX6_take wsX6_take) := sorry

set_option maxRecDepth 20000 in
set_option maxRecDepth 20000 in
theorem gX6_value_X6_sum : GoodIn wsX6_value (wsV RX6 244 RX6 yX6_sum wsX6_sum) := sorry

set_option maxRecDepth 20000 in
set_option maxRecDepth 20000 in
theorem gX6_value_X6_takeKnown : GoodIn wsX6_value (wsV RX6 179 RX6 yX6_takeKnown wsX6_takeKnown) := sorry

set_option maxRecDepth 20000 in
set_option maxRecDepth 20000 in
theorem gX6_value_X6_sign : GoodIn wsX6_value (wsV RX6 43 RX6 yX6_sign wsX6_sign) := sorry

set_option maxRecDepth 20000 in
set_option maxRecDepth 20000 in
theorem gX6_value_Jx29ce0_ordinal_8abf5_u59X8 : GoodIn wsX6_value (va_wsU RX6 59 RX8 "java/lang/Enum" ⟨"TideLots$Sign", "ordinal", "()I"⟩ yJx29ce0_ordinal_8abf5 wsJx29ce0_ordinal_8abf5) := sorry

set_option maxRecDepth 20000 in
set_option maxRecDepth 20000 in
theorem gX6_value_X6_takeNumber : GoodIn wsX6_value (wsV RX6 108 RX6 yX6_takeNumber wsX6_takeNumber) := sorry

set_option maxRecDepth 20000 in
set_option maxRecDepth 20000 in
theorem gX6_value_X6_value : GoodIn wsX6_value (wsV RX6 306 RX6 yX6_value wsX6_value) := sorry

theorem i_X6_value_X6 : ∀ w ∈ u_ws RX6 TX6 9, w ∈ wsX6_value := sorry

theorem i_X6_value_X7 : ∀ w ∈ u_ws RX7 TX7 17, w ∈ wsX6_value := sorry

noncomputable def b_X6_value_303 (Z : Nat → Nat) (F : Nat → gMem → Nat → Int32 → Option (Int32 × gMem)) (M : gMem) (x0 : Nat) (x2 : Option Nat) (x3 : Int32) : Option (Int32 × gMem) :=
  ck (mT M x0 = 6) <| dr ((mR M x0 2)) fun a2 => ck (mT M a2 = 7) <| dr ((mR M a2 10)) fun a5 => ck (mT M a5 = 8) <| bd (f_X9_add Z M a5 x2 ((mI M x0 8))) fun _ M4 => ck (x3 = 0 ∨ x3 = 1) <| some (x3, M4)
noncomputable def b_X6_value_297 (Z : Nat → Nat) (F : Nat → gMem → Nat → Int32 → Option (Int32 × gMem)) (M : gMem) (x0 : Nat) (x2 : Option Nat) (s0 : Int32) : Option (Int32 × gMem) :=
  b_X6_value_303 Z F M x0 x2 s0
noncomputable def b_X6_value_296 (Z : Nat → Nat) (F : Nat → gMem → Nat → Int32 → Option (Int32 × gMem)) (M : gMem) (x0 : Nat) (x2 : Option Nat) : Option (Int32 × gMem) :=
  b_X6_value_297 Z F M x0 x2 ((0 : Int32))
noncomputable def b_X6_value_228 (Z : Nat → Nat) (F : Nat → gMem → Nat → Int32 → Option (Int32 × gMem)) (M : gMem) (x0 : Nat) (x1 : Int32) (x2 : Option Nat) : Option (Int32 × gMem) :=
  ck (mT M x0 = 6) <| bd (f_X6_take M x0 x2) fun r8 M8 => (if r8 = 0 then b_X6_value_296 Z F M8 x0 x2 else (if (8 : Int32) ≤ x1 then b_X6_value_296 Z F M8 x0 x2 else ck (mT M8 x0 = 6) <| bd (f_X6_take M8 x0 ((some (Z 25)))) fun r10 M10 => (if r10 = 0 then b_X6_value_296 Z F M10 x0 x2 else ck (mT M10 x0 = 6) <| bd (F 4 M10 x0 ((x1 + (1 : Int32)))) fun r12 M12 => (if r12 = 0 then b_X6_value_296 Z F M12 x0 x2 else ck (mT M12 x0 = 6) <| bd (f_X6_take M12 x0 ((some (Z 30)))) fun r14 M14 => (if r14 = 0 then b_X6_value_296 Z F M14 x0 x2 else ck (mT M14 x0 = 6) <| bd (F 4 M14 x0 ((x1 + (1 : Int32)))) fun r16 M16 => (if r16 = 0 then b_X6_value_296 Z F M16 x0 x2 else ck (mT M16 x0 = 6) <| bd (f_X6_take M16 x0 ((some (Z 26)))) fun r18 M18 => (if r18 = 0 then b_X6_value_296 Z F M18 x0 x2 else b_X6_value_297 Z F M18 x0 x2 ((1 : Int32)))))))))
noncomputable def b_X6_value_227 (Z : Nat → Nat) (F : Nat → gMem → Nat → Int32 → Option (Int32 × gMem)) (M : gMem) (s0 : Int32) : Option (Int32 × gMem) :=
  ck (s0 = 0 ∨ s0 = 1) <| some (s0, M)
noncomputable def b_X6_value_226 (Z : Nat → Nat) (F : Nat → gMem → Nat → Int32 → Option (Int32 × gMem)) (M : gMem)  : Option (Int32 × gMem) :=
  b_X6_value_227 Z F M ((0 : Int32))
noncomputable def b_X6_value_184 (Z : Nat → Nat) (F : Nat → gMem → Nat → Int32 → Option (Int32 × gMem)) (M : gMem) (x0 : Nat) (s0 : Int32) : Option (Int32 × gMem) :=
  b_X6_value_303 Z F M x0 ((some (Z 44))) s0
noncomputable def b_X6_value_183 (Z : Nat → Nat) (F : Nat → gMem → Nat → Int32 → Option (Int32 × gMem)) (M : gMem) (x0 : Nat) : Option (Int32 × gMem) :=
  b_X6_value_184 Z F M x0 ((0 : Int32))
noncomputable def b_X6_value_145 (Z : Nat → Nat) (F : Nat → gMem → Nat → Int32 → Option (Int32 × gMem)) (M : gMem) (x0 : Nat) (x2 : Option Nat) (s0 : Int32) : Option (Int32 × gMem) :=
  b_X6_value_303 Z F M x0 x2 s0
noncomputable def b_X6_value_144 (Z : Nat → Nat) (F : Nat → gMem → Nat → Int32 → Option (Int32 × gMem)) (M : gMem) (x0 : Nat) (x2 : Option Nat) : Option (Int32 × gMem) :=
  b_X6_value_145 Z F M x0 x2 ((0 : Int32))
noncomputable def b_X6_value_121 (Z : Nat → Nat) (F : Nat → gMem → Nat → Int32 → Option (Int32 × gMem)) (M : gMem) (x0 : Nat) (x2 : Option Nat) : Option (Int32 × gMem) :=
  ck (mT M x0 = 6) <| bd (f_X6_take M x0 x2) fun r21 M21 => (if r21 = 0 then b_X6_value_144 Z F M21 x0 x2 else ck (mT M21 x0 = 6) <| bd (f_X6_takeKnown Z M21 x0 ((mR M21 x0 3))) fun r24 M24 => (if r24 = 0 then b_X6_value_144 Z F M24 x0 x2 else b_X6_value_145 Z F M24 x0 x2 ((1 : Int32))))
noncomputable def b_X6_value_117 (Z : Nat → Nat) (F : Nat → gMem → Nat → Int32 → Option (Int32 × gMem)) (M : gMem) (x0 : Nat) (x2 : Option Nat) (s0 : Int32) : Option (Int32 × gMem) :=
  b_X6_value_303 Z F M x0 x2 s0
noncomputable def b_X6_value_116 (Z : Nat → Nat) (F : Nat → gMem → Nat → Int32 → Option (Int32 × gMem)) (M : gMem) (x0 : Nat) (x2 : Option Nat) : Option (Int32 × gMem) :=
  b_X6_value_117 Z F M x0 x2 ((0 : Int32))
noncomputable def b_X6_value_93 (Z : Nat → Nat) (F : Nat → gMem → Nat → Int32 → Option (Int32 × gMem)) (M : gMem) (x0 : Nat) (x2 : Option Nat) : Option (Int32 × gMem) :=
  ck (mT M x0 = 6) <| bd (f_X6_take M x0 x2) fun r25 M25 => (if r25 = 0 then b_X6_value_116 Z F M25 x0 x2 else ck (mT M25 x0 = 6) <| bd (f_X6_takeKnown Z M25 x0 ((mR M25 x0 4))) fun r28 M28 => (if r28 = 0 then b_X6_value_116 Z F M28 x0 x2 else b_X6_value_117 Z F M28 x0 x2 ((1 : Int32))))
noncomputable def b_X6_value_0 (Z : Nat → Nat) (F : Nat → gMem → Nat → Int32 → Option (Int32 × gMem)) (M : gMem) (x0 : Nat) (x1 : Int32) : Option (Int32 × gMem) :=
  ck (mT M x0 = 6) <| bd (f_X6_sign M x0) fun r29 M29 => dr (ordZ Z r29) fun o31 => (if (gSw o31) = (13 : Int32) then ck (mT M29 x0 = 6) <| bd (f_X6_takeNumber Z M29 x0 ((0 : Int32)) ((999999 : Int32))) fun r33 M33 => b_X6_value_303 Z F M33 x0 r29 r33 else (if (gSw o31) = (14 : Int32) then ck (mT M29 x0 = 6) <| bd (f_X6_take M29 x0 r29) fun r36 M36 => b_X6_value_303 Z F M36 x0 r29 r36 else (if (gSw o31) = (15 : Int32) then b_X6_value_93 Z F M29 x0 r29 else (if (gSw o31) = (16 : Int32) then b_X6_value_93 Z F M29 x0 r29 else (if (gSw o31) = (17 : Int32) then b_X6_value_93 Z F M29 x0 r29 else (if (gSw o31) = (18 : Int32) then b_X6_value_121 Z F M29 x0 r29 else (if (gSw o31) = (19 : Int32) then b_X6_value_121 Z F M29 x0 r29 else (if (gSw o31) = (20 : Int32) then (if (8 : Int32) ≤ x1 then b_X6_value_183 Z F M29 x0 else ck (mT M29 x0 = 6) <| bd (f_X6_take M29 x0 ((some (Z 32)))) fun r44 M44 => (if r44 = 0 then b_X6_value_183 Z F M44 x0 else ck (mT M44 x0 = 6) <| bd (F 6 M44 x0 ((x1 + (1 : Int32)))) fun r46 M46 => (if r46 = 0 then b_X6_value_183 Z F M46 x0 else b_X6_value_184 Z F M46 x0 ((1 : Int32))))) else (if (gSw o31) = (21 : Int32) then (if (8 : Int32) ≤ x1 then b_X6_value_226 Z F M29  else ck (mT M29 x0 = 6) <| bd (f_X6_take M29 x0 r29) fun r49 M49 => (if r49 = 0 then b_X6_value_226 Z F M49  else ck (mT M49 x0 = 6) <| bd (F 4 M49 x0 ((x1 + (1 : Int32)))) fun r51 M51 => (if r51 = 0 then b_X6_value_226 Z F M51  else ck (mT M51 x0 = 6) <| bd (f_X6_take M51 x0 ((some (Z 26)))) fun r53 M53 => (if r53 = 0 then b_X6_value_226 Z F M53  else b_X6_value_227 Z F M53 ((1 : Int32)))))) else (if (gSw o31) = (22 : Int32) then b_X6_value_228 Z F M29 x0 x1 r29 else (if (gSw o31) = (23 : Int32) then b_X6_value_228 Z F M29 x0 x1 r29 else some ((0 : Int32), M29))))))))))))
noncomputable def fr_X6_value (Z : Nat → Nat) (F : Nat → gMem → Nat → Int32 → Option (Int32 × gMem)) (M : gMem) (x0 : Nat) (x1 : Int32) : Option (Int32 × gMem) :=
  b_X6_value_0 Z F M x0 x1
set_option maxHeartbeats 4000000 in
set_option maxRecDepth 100000 in
theorem t_X6_value_303 (X : gX p s m args meth c D cy B (gSt Z B H0) RX6 cX6_value wsX6_value 4) (hr : meth.sig.returnType = (some .boolean)) {n0 : Nat} {F : Nat → gMem → Nat → Int32 → Option (Int32 × gMem)} (hF : hX6R l D cy B H0 Z n0 F) {Q : State → Prop} : ∀ (M : gMem) (x0 : Nat) (x2 : Option Nat) (x3 : Int32) (z : Int32 × gMem), b_X6_value_303 Z F M x0 x2 x3 = some z → (fun (r : Int32 × gMem) => Q = gMQ below D cy B H0 args s 0 0 (some (vI r.1)) r.2) z → gGo p l e (rX6R (n0 + 1)) s m args below meth c D cy B H0 4 0 0 Q 303 [(0, vR (some x0)), (2, vR x2), (3, vI x3)] [] M := sorry

set_option maxHeartbeats 4000000 in
set_option maxRecDepth 100000 in
theorem t_X6_value_297 (X : gX p s m args meth c D cy B (gSt Z B H0) RX6 cX6_value wsX6_value 4) (hr : meth.sig.returnType = (some .boolean)) {n0 : Nat} {F : Nat → gMem → Nat → Int32 → Option (Int32 × gMem)} (hF : hX6R l D cy B H0 Z n0 F) {Q : State → Prop} : ∀ (M : gMem) (x0 : Nat) (x2 : Option Nat) (s0 : Int32) (z : Int32 × gMem), b_X6_value_297 Z F M x0 x2 s0 = some z → (fun (r : Int32 × gMem) => Q = gMQ below D cy B H0 args s 0 0 (some (vI r.1)) r.2) z → gGo p l e (rX6R (n0 + 1)) s m args below meth c D cy B H0 4 0 0 Q 297 [(0, vR (some x0)), (2, vR x2)] [vI s0] M := sorry

set_option maxHeartbeats 4000000 in
set_option maxRecDepth 100000 in
theorem t_X6_value_296 (X : gX p s m args meth c D cy B (gSt Z B H0) RX6 cX6_value wsX6_value 4) (hr : meth.sig.returnType = (some .boolean)) {n0 : Nat} {F : Nat → gMem → Nat → Int32 → Option (Int32 × gMem)} (hF : hX6R l D cy B H0 Z n0 F) {Q : State → Prop} : ∀ (M : gMem) (x0 : Nat) (x2 : Option Nat) (z : Int32 × gMem), b_X6_value_296 Z F M x0 x2 = some z → (fun (r : Int32 × gMem) => Q = gMQ below D cy B H0 args s 0 0 (some (vI r.1)) r.2) z → gGo p l e (rX6R (n0 + 1)) s m args below meth c D cy B H0 4 0 0 Q 296 [(0, vR (some x0)), (2, vR x2)] [] M := sorry

set_option maxHeartbeats 4000000 in
set_option maxRecDepth 100000 in
theorem t_X6_value_228 (X : gX p s m args meth c D cy B (gSt Z B H0) RX6 cX6_value wsX6_value 4) (hr : meth.sig.returnType = (some .boolean)) {n0 : Nat} {F : Nat → gMem → Nat → Int32 → Option (Int32 × gMem)} (hF : hX6R l D cy B H0 Z n0 F) {Q : State → Prop} : ∀ (M : gMem) (x0 : Nat) (x1 : Int32) (x2 : Option Nat) (z : Int32 × gMem), b_X6_value_228 Z F M x0 x1 x2 = some z → (fun (r : Int32 × gMem) => Q = gMQ below D cy B H0 args s 0 0 (some (vI r.1)) r.2) z → gGo p l e (rX6R (n0 + 1)) s m args below meth c D cy B H0 4 0 0 Q 228 [(0, vR (some x0)), (1, vI x1), (2, vR x2)] [] M := sorry

set_option maxHeartbeats 4000000 in
set_option maxRecDepth 100000 in
theorem t_X6_value_227 (X : gX p s m args meth c D cy B (gSt Z B H0) RX6 cX6_value wsX6_value 4) (hr : meth.sig.returnType = (some .boolean)) {n0 : Nat} {F : Nat → gMem → Nat → Int32 → Option (Int32 × gMem)} (hF : hX6R l D cy B H0 Z n0 F) {Q : State → Prop} : ∀ (M : gMem) (s0 : Int32) (z : Int32 × gMem), b_X6_value_227 Z F M s0 = some z → (fun (r : Int32 × gMem) => Q = gMQ below D cy B H0 args s 0 0 (some (vI r.1)) r.2) z → gGo p l e (rX6R (n0 + 1)) s m args below meth c D cy B H0 4 0 0 Q 227 [] [vI s0] M := sorry

set_option maxHeartbeats 4000000 in
set_option maxRecDepth 100000 in
theorem t_X6_value_226 (X : gX p s m args meth c D cy B (gSt Z B H0) RX6 cX6_value wsX6_value 4) (hr : meth.sig.returnType = (some .boolean)) {n0 : Nat} {F : Nat → gMem → Nat → Int32 → Option (Int32 × gMem)} (hF : hX6R l D cy B H0 Z n0 F) {Q : State → Prop} : ∀ (M : gMem)  (z : Int32 × gMem), b_X6_value_226 Z F M  = some z → (fun (r : Int32 × gMem) => Q = gMQ below D cy B H0 args s 0 0 (some (vI r.1)) r.2) z → gGo p l e (rX6R (n0 + 1)) s m args below meth c D cy B H0 4 0 0 Q 226 [] [] M := sorry

set_option maxHeartbeats 4000000 in
set_option maxRecDepth 100000 in
theorem t_X6_value_184 (X : gX p s m args meth c D cy B (gSt Z B H0) RX6 cX6_value wsX6_value 4) (hr : meth.sig.returnType = (some .boolean)) {n0 : Nat} {F : Nat → gMem → Nat → Int32 → Option (Int32 × gMem)} (hF : hX6R l D cy B H0 Z n0 F) {Q : State → Prop} : ∀ (M : gMem) (x0 : Nat) (s0 : Int32) (z : Int32 × gMem), b_X6_value_184 Z F M x0 s0 = some z → (fun (r : Int32 × gMem) => Q = gMQ below D cy B H0 args s 0 0 (some (vI r.1)) r.2) z → gGo p l e (rX6R (n0 + 1)) s m args below meth c D cy B H0 4 0 0 Q 184 [(0, vR (some x0)), (2, vR (some (Z 44)))] [vI s0] M := sorry

set_option maxHeartbeats 4000000 in
set_option maxRecDepth 100000 in
theorem t_X6_value_183 (X : gX p s m args meth c D cy B (gSt Z B H0) RX6 cX6_value wsX6_value 4) (hr : meth.sig.returnType = (some .boolean)) {n0 : Nat} {F : Nat → gMem → Nat → Int32 → Option (Int32 × gMem)} (hF : hX6R l D cy B H0 Z n0 F) {Q : State → Prop} : ∀ (M : gMem) (x0 : Nat) (z : Int32 × gMem), b_X6_value_183 Z F M x0 = some z → (fun (r : Int32 × gMem) => Q = gMQ below D cy B H0 args s 0 0 (some (vI r.1)) r.2) z → gGo p l e (rX6R (n0 + 1)) s m args below meth c D cy B H0 4 0 0 Q 183 [(0, vR (some x0)), (2, vR (some (Z 44)))] [] M := sorry

set_option maxHeartbeats 4000000 in
set_option maxRecDepth 100000 in
theorem t_X6_value_145 (X : gX p s m args meth c D cy B (gSt Z B H0) RX6 cX6_value wsX6_value 4) (hr : meth.sig.returnType = (some .boolean)) {n0 : Nat} {F : Nat → gMem → Nat → Int32 → Option (Int32 × gMem)} (hF : hX6R l D cy B H0 Z n0 F) {Q : State → Prop} : ∀ (M : gMem) (x0 : Nat) (x2 : Option Nat) (s0 : Int32) (z : Int32 × gMem), b_X6_value_145 Z F M x0 x2 s0 = some z → (fun (r : Int32 × gMem) => Q = gMQ below D cy B H0 args s 0 0 (some (vI r.1)) r.2) z → gGo p l e (rX6R (n0 + 1)) s m args below meth c D cy B H0 4 0 0 Q 145 [(0, vR (some x0)), (2, vR x2)] [vI s0] M := sorry

set_option maxHeartbeats 4000000 in
set_option maxRecDepth 100000 in
theorem t_X6_value_144 (X : gX p s m args meth c D cy B (gSt Z B H0) RX6 cX6_value wsX6_value 4) (hr : meth.sig.returnType = (some .boolean)) {n0 : Nat} {F : Nat → gMem → Nat → Int32 → Option (Int32 × gMem)} (hF : hX6R l D cy B H0 Z n0 F) {Q : State → Prop} : ∀ (M : gMem) (x0 : Nat) (x2 : Option Nat) (z : Int32 × gMem), b_X6_value_144 Z F M x0 x2 = some z → (fun (r : Int32 × gMem) => Q = gMQ below D cy B H0 args s 0 0 (some (vI r.1)) r.2) z → gGo p l e (rX6R (n0 + 1)) s m args below meth c D cy B H0 4 0 0 Q 144 [(0, vR (some x0)), (2, vR x2)] [] M := sorry

set_option maxHeartbeats 4000000 in
set_option maxRecDepth 100000 in
theorem t_X6_value_121 (X : gX p s m args meth c D cy B (gSt Z B H0) RX6 cX6_value wsX6_value 4) (hr : meth.sig.returnType = (some .boolean)) {n0 : Nat} {F : Nat → gMem → Nat → Int32 → Option (Int32 × gMem)} (hF : hX6R l D cy B H0 Z n0 F) {Q : State → Prop} : ∀ (M : gMem) (x0 : Nat) (x2 : Option Nat) (z : Int32 × gMem), b_X6_value_121 Z F M x0 x2 = some z → (fun (r : Int32 × gMem) => Q = gMQ below D cy B H0 args s 0 0 (some (vI r.1)) r.2) z → gGo p l e (rX6R (n0 + 1)) s m args below meth c D cy B H0 4 0 0 Q 121 [(0, vR (some x0)), (2, vR x2)] [] M := sorry

set_option maxHeartbeats 4000000 in
set_option maxRecDepth 100000 in
theorem t_X6_value_117 (X : gX p s m args meth c D cy B (gSt Z B H0) RX6 cX6_value wsX6_value 4) (hr : meth.sig.returnType = (some .boolean)) {n0 : Nat} {F : Nat → gMem → Nat → Int32 → Option (Int32 × gMem)} (hF : hX6R l D cy B H0 Z n0 F) {Q : State → Prop} : ∀ (M : gMem) (x0 : Nat) (x2 : Option Nat) (s0 : Int32) (z : Int32 × gMem), b_X6_value_117 Z F M x0 x2 s0 = some z → (fun (r : Int32 × gMem) => Q = gMQ below D cy B H0 args s 0 0 (some (vI r.1)) r.2) z → gGo p l e (rX6R (n0 + 1)) s m args below meth c D cy B H0 4 0 0 Q 117 [(0, vR (some x0)), (2, vR x2)] [vI s0] M := sorry

set_option maxHeartbeats 4000000 in
set_option maxRecDepth 100000 in
theorem t_X6_value_116 (X : gX p s m args meth c D cy B (gSt Z B H0) RX6 cX6_value wsX6_value 4) (hr : meth.sig.returnType = (some .boolean)) {n0 : Nat} {F : Nat → gMem → Nat → Int32 → Option (Int32 × gMem)} (hF : hX6R l D cy B H0 Z n0 F) {Q : State → Prop} : ∀ (M : gMem) (x0 : Nat) (x2 : Option Nat) (z : Int32 × gMem), b_X6_value_116 Z F M x0 x2 = some z → (fun (r : Int32 × gMem) => Q = gMQ below D cy B H0 args s 0 0 (some (vI r.1)) r.2) z → gGo p l e (rX6R (n0 + 1)) s m args below meth c D cy B H0 4 0 0 Q 116 [(0, vR (some x0)), (2, vR x2)] [] M := sorry

set_option maxHeartbeats 4000000 in
set_option maxRecDepth 100000 in
theorem t_X6_value_93 (X : gX p s m args meth c D cy B (gSt Z B H0) RX6 cX6_value wsX6_value 4) (hr : meth.sig.returnType = (some .boolean)) {n0 : Nat} {F : Nat → gMem → Nat → Int32 → Option (Int32 × gMem)} (hF : hX6R l D cy B H0 Z n0 F) {Q : State → Prop} : ∀ (M : gMem) (x0 : Nat) (x2 : Option Nat) (z : Int32 × gMem), b_X6_value_93 Z F M x0 x2 = some z → (fun (r : Int32 × gMem) => Q = gMQ below D cy B H0 args s 0 0 (some (vI r.1)) r.2) z → gGo p l e (rX6R (n0 + 1)) s m args below meth c D cy B H0 4 0 0 Q 93 [(0, vR (some x0)), (2, vR x2)] [] M := sorry

set_option maxHeartbeats 4000000 in
set_option maxRecDepth 100000 in
theorem t_X6_value_0 (X : gX p s m args meth c D cy B (gSt Z B H0) RX6 cX6_value wsX6_value 4) (hr : meth.sig.returnType = (some .boolean)) {n0 : Nat} {F : Nat → gMem → Nat → Int32 → Option (Int32 × gMem)} (hF : hX6R l D cy B H0 Z n0 F) {Q : State → Prop} : ∀ (M : gMem) (x0 : Nat) (x1 : Int32) (z : Int32 × gMem), b_X6_value_0 Z F M x0 x1 = some z → (fun (r : Int32 × gMem) => Q = gMQ below D cy B H0 args s 0 0 (some (vI r.1)) r.2) z → gGo p l e (rX6R (n0 + 1)) s m args below meth c D cy B H0 4 0 0 Q 0 [(0, vR (some x0)), (1, vI x1)] [] M := sorry

set_option maxHeartbeats 4000000 in
set_option maxRecDepth 100000 in
theorem mr_X6_value (l : Launch) {D : va_G} {cy : Nat → ClassId} {B : Nat} {H0 : Heap} {Z : Nat → Nat} {M M1 : gMem} {n0 : Nat} {F : Nat → gMem → Nat → Int32 → Option (Int32 × gMem)} (hF : hX6R l D cy B H0 Z n0 F) {x0 : Nat} {x1 : Int32} {r : Int32} (hf : fr_X6_value Z F M x0 x1 = some (r, M1)) : Met l yX6_value wsX6_value (rX6R (n0 + 1)) (va_Pc (Value.ref x0 :: List.map gv [vI x1]) (gPre D cy B H0 (gSt Z B H0) M)) (gQ D cy B H0 (some (vI r)) M1) 0 0 (gA B) := sorry

noncomputable def fX6R (Z : Nat → Nat) : Nat → Nat → gMem → Nat → Int32 → Option (Int32 × gMem)
  | 0 => fun _ _ _ _ => none
  | n + 1 => fun j M x0 x1 => if j = 0 then fr_X6_test Z (fX6R Z n) M x0 x1 else if j = 1 then fr_X6_both Z (fX6R Z n) M x0 x1 else if j = 2 then fr_X6_single Z (fX6R Z n) M x0 x1 else if j = 3 then fr_X6_comparedSum Z (fX6R Z n) M x0 x1 else if j = 4 then fr_X6_sum Z (fX6R Z n) M x0 x1 else if j = 5 then fr_X6_product Z (fX6R Z n) M x0 x1 else if j = 6 then fr_X6_value Z (fX6R Z n) M x0 x1 else none
theorem mX6R (l : Launch) {D : va_G} {cy : Nat → ClassId} {B : Nat} {H0 : Heap} {Z : Nat → Nat} : ∀ n : Nat, hX6R l D cy B H0 Z n (fX6R Z n) := sorry

noncomputable def f_X6_test (Z : Nat → Nat) (M : gMem) (x0 : Nat) (x1 : Int32) : Option (Int32 × gMem) := fX6R Z 64 0 M x0 x1
abbrev rX6_test : Room := { frames := 66, cells := 0, slots := 0, locals := 2604 }
theorem m_X6_test (l : Launch) {D : va_G} {cy : Nat → ClassId} {B : Nat} {H0 : Heap} {Z : Nat → Nat} {M M1 : gMem} {x0 : Nat} {x1 : Int32} {r : Int32} (hf : f_X6_test Z M x0 x1 = some (r, M1)) : Met l yX6_test wsX6_test rX6_test (va_Pc (Value.ref x0 :: List.map gv [vI x1]) (gPre D cy B H0 (gSt Z B H0) M)) (gQ D cy B H0 (some (vI r)) M1) 0 0 (gA B) := sorry

noncomputable def f_X6_both (Z : Nat → Nat) (M : gMem) (x0 : Nat) (x1 : Int32) : Option (Int32 × gMem) := fX6R Z 64 1 M x0 x1
abbrev rX6_both : Room := { frames := 66, cells := 0, slots := 0, locals := 2604 }
theorem m_X6_both (l : Launch) {D : va_G} {cy : Nat → ClassId} {B : Nat} {H0 : Heap} {Z : Nat → Nat} {M M1 : gMem} {x0 : Nat} {x1 : Int32} {r : Int32} (hf : f_X6_both Z M x0 x1 = some (r, M1)) : Met l yX6_both wsX6_both rX6_both (va_Pc (Value.ref x0 :: List.map gv [vI x1]) (gPre D cy B H0 (gSt Z B H0) M)) (gQ D cy B H0 (some (vI r)) M1) 0 0 (gA B) := sorry

noncomputable def f_X6_single (Z : Nat → Nat) (M : gMem) (x0 : Nat) (x1 : Int32) : Option (Int32 × gMem) := fX6R Z 64 2 M x0 x1
abbrev rX6_single : Room := { frames := 66, cells := 0, slots := 0, locals := 2604 }
theorem m_X6_single (l : Launch) {D : va_G} {cy : Nat → ClassId} {B : Nat} {H0 : Heap} {Z : Nat → Nat} {M M1 : gMem} {x0 : Nat} {x1 : Int32} {r : Int32} (hf : f_X6_single Z M x0 x1 = some (r, M1)) : Met l yX6_single wsX6_single rX6_single (va_Pc (Value.ref x0 :: List.map gv [vI x1]) (gPre D cy B H0 (gSt Z B H0) M)) (gQ D cy B H0 (some (vI r)) M1) 0 0 (gA B) := sorry

noncomputable def f_X6_comparedSum (Z : Nat → Nat) (M : gMem) (x0 : Nat) (x1 : Int32) : Option (Int32 × gMem) := fX6R Z 64 3 M x0 x1
abbrev rX6_comparedSum : Room := { frames := 66, cells := 0, slots := 0, locals := 2604 }
theorem m_X6_comparedSum (l : Launch) {D : va_G} {cy : Nat → ClassId} {B : Nat} {H0 : Heap} {Z : Nat → Nat} {M M1 : gMem} {x0 : Nat} {x1 : Int32} {r : Int32} (hf : f_X6_comparedSum Z M x0 x1 = some (r, M1)) : Met l yX6_comparedSum wsX6_comparedSum rX6_comparedSum (va_Pc (Value.ref x0 :: List.map gv [vI x1]) (gPre D cy B H0 (gSt Z B H0) M)) (gQ D cy B H0 (some (vI r)) M1) 0 0 (gA B) := sorry

noncomputable def f_X6_sum (Z : Nat → Nat) (M : gMem) (x0 : Nat) (x1 : Int32) : Option (Int32 × gMem) := fX6R Z 64 4 M x0 x1
abbrev rX6_sum : Room := { frames := 66, cells := 0, slots := 0, locals := 2604 }
theorem m_X6_sum (l : Launch) {D : va_G} {cy : Nat → ClassId} {B : Nat} {H0 : Heap} {Z : Nat → Nat} {M M1 : gMem} {x0 : Nat} {x1 : Int32} {r : Int32} (hf : f_X6_sum Z M x0 x1 = some (r, M1)) : Met l yX6_sum wsX6_sum rX6_sum (va_Pc (Value.ref x0 :: List.map gv [vI x1]) (gPre D cy B H0 (gSt Z B H0) M)) (gQ D cy B H0 (some (vI r)) M1) 0 0 (gA B) := sorry

noncomputable def f_X6_product (Z : Nat → Nat) (M : gMem) (x0 : Nat) (x1 : Int32) : Option (Int32 × gMem) := fX6R Z 64 5 M x0 x1
abbrev rX6_product : Room := { frames := 66, cells := 0, slots := 0, locals := 2604 }
theorem m_X6_product (l : Launch) {D : va_G} {cy : Nat → ClassId} {B : Nat} {H0 : Heap} {Z : Nat → Nat} {M M1 : gMem} {x0 : Nat} {x1 : Int32} {r : Int32} (hf : f_X6_product Z M x0 x1 = some (r, M1)) : Met l yX6_product wsX6_product rX6_product (va_Pc (Value.ref x0 :: List.map gv [vI x1]) (gPre D cy B H0 (gSt Z B H0) M)) (gQ D cy B H0 (some (vI r)) M1) 0 0 (gA B) := sorry

noncomputable def f_X6_value (Z : Nat → Nat) (M : gMem) (x0 : Nat) (x1 : Int32) : Option (Int32 × gMem) := fX6R Z 64 6 M x0 x1
abbrev rX6_value : Room := { frames := 66, cells := 0, slots := 0, locals := 2604 }
theorem m_X6_value (l : Launch) {D : va_G} {cy : Nat → ClassId} {B : Nat} {H0 : Heap} {Z : Nat → Nat} {M M1 : gMem} {x0 : Nat} {x1 : Int32} {r : Int32} (hf : f_X6_value Z M x0 x1 = some (r, M1)) : Met l yX6_value wsX6_value rX6_value (va_Pc (Value.ref x0 :: List.map gv [vI x1]) (gPre D cy B H0 (gSt Z B H0) M)) (gQ D cy B H0 (some (vI r)) M1) 0 0 (gA B) := sorry

end
