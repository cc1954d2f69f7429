section
variable {p : Program} {l : Launch} {e : Env} {s : State} {m : MethodId} {args : Array Value} {below : List Frame} {meth : Method} {c : Code} {D : va_G} {cy : Nat → ClassId} {B : Nat} {H0 : Heap} {Z : Nat → Nat}
/-! ## TideLots$Reader.goLine()Z -/
theorem dX6_goLine_0 : decode cX6_goLine 0 = .ok (.aload_n 0, 1) := by decide +kernel
theorem dX6_goLine_1 : decode cX6_goLine 1 = .ok (.getfield 34, 3) := by decide +kernel
theorem dX6_goLine_4 : decode cX6_goLine 4 = .ok (.getfield 169, 3) := by decide +kernel
theorem dX6_goLine_7 : decode cX6_goLine 7 = .ok (.bipush 24, 2) := by decide +kernel
theorem dX6_goLine_9 : decode cX6_goLine 9 = .ok (.if_icmp .lt 8, 3) := by decide +kernel
theorem dX6_goLine_12 : decode cX6_goLine 12 = .ok (.aload_n 0, 1) := by decide +kernel
theorem dX6_goLine_13 : decode cX6_goLine 13 = .ok (.iconst 4, 1) := by decide +kernel
theorem dX6_goLine_14 : decode cX6_goLine 14 = .ok (.invokevirtual 133, 3) := by decide +kernel
theorem dX6_goLine_17 : decode cX6_goLine 17 = .ok (.aload_n 0, 1) := by decide +kernel
theorem dX6_goLine_18 : decode cX6_goLine 18 = .ok (.getfield 34, 3) := by decide +kernel
theorem dX6_goLine_21 : decode cX6_goLine 21 = .ok (.invokevirtual 172, 3) := by decide +kernel
theorem dX6_goLine_24 : decode cX6_goLine 24 = .ok (.astore_n 1, 1) := by decide +kernel
theorem dX6_goLine_25 : decode cX6_goLine 25 = .ok (.aload_n 0, 1) := by decide +kernel
theorem dX6_goLine_26 : decode cX6_goLine 26 = .ok (.getstatic 176, 3) := by decide +kernel
theorem dX6_goLine_29 : decode cX6_goLine 29 = .ok (.invokevirtual 79, 3) := by decide +kernel
theorem dX6_goLine_32 : decode cX6_goLine 32 = .ok (.ifCond .eq 14, 3) := by decide +kernel
theorem dX6_goLine_35 : decode cX6_goLine 35 = .ok (.aload_n 0, 1) := by decide +kernel
theorem dX6_goLine_36 : decode cX6_goLine 36 = .ok (.aload_n 0, 1) := by decide +kernel
theorem dX6_goLine_37 : decode cX6_goLine 37 = .ok (.getfield 24, 3) := by decide +kernel
theorem dX6_goLine_40 : decode cX6_goLine 40 = .ok (.invokevirtual 179, 3) := by decide +kernel
theorem dX6_goLine_43 : decode cX6_goLine 43 = .ok (.ifCond .ne 5, 3) := by decide +kernel
theorem dX6_goLine_46 : decode cX6_goLine 46 = .ok (.iconst 0, 1) := by decide +kernel
theorem dX6_goLine_47 : decode cX6_goLine 47 = .ok (.ireturn, 1) := by decide +kernel
theorem dX6_goLine_48 : decode cX6_goLine 48 = .ok (.aload_n 1, 1) := by decide +kernel
theorem dX6_goLine_49 : decode cX6_goLine 49 = .ok (.aload_n 0, 1) := by decide +kernel
theorem dX6_goLine_50 : decode cX6_goLine 50 = .ok (.getfield 112, 3) := by decide +kernel
theorem dX6_goLine_53 : decode cX6_goLine 53 = .ok (.putfield 182, 3) := by decide +kernel
theorem dX6_goLine_56 : decode cX6_goLine 56 = .ok (.aload_n 0, 1) := by decide +kernel
theorem dX6_goLine_57 : decode cX6_goLine 57 = .ok (.getstatic 187, 3) := by decide +kernel
theorem dX6_goLine_60 : decode cX6_goLine 60 = .ok (.invokevirtual 79, 3) := by decide +kernel
theorem dX6_goLine_63 : decode cX6_goLine 63 = .ok (.ifCond .eq 14, 3) := by decide +kernel
theorem dX6_goLine_66 : decode cX6_goLine 66 = .ok (.aload_n 0, 1) := by decide +kernel
theorem dX6_goLine_67 : decode cX6_goLine 67 = .ok (.aload_n 0, 1) := by decide +kernel
theorem dX6_goLine_68 : decode cX6_goLine 68 = .ok (.getfield 20, 3) := by decide +kernel
theorem dX6_goLine_71 : decode cX6_goLine 71 = .ok (.invokevirtual 179, 3) := by decide +kernel
theorem dX6_goLine_74 : decode cX6_goLine 74 = .ok (.ifCond .ne 5, 3) := by decide +kernel
theorem dX6_goLine_77 : decode cX6_goLine 77 = .ok (.iconst 0, 1) := by decide +kernel
theorem dX6_goLine_78 : decode cX6_goLine 78 = .ok (.ireturn, 1) := by decide +kernel
theorem dX6_goLine_79 : decode cX6_goLine 79 = .ok (.aload_n 1, 1) := by decide +kernel
theorem dX6_goLine_80 : decode cX6_goLine 80 = .ok (.aload_n 0, 1) := by decide +kernel
theorem dX6_goLine_81 : decode cX6_goLine 81 = .ok (.getfield 112, 3) := by decide +kernel
theorem dX6_goLine_84 : decode cX6_goLine 84 = .ok (.putfield 190, 3) := by decide +kernel
theorem dX6_goLine_87 : decode cX6_goLine 87 = .ok (.aload_n 1, 1) := by decide +kernel
theorem dX6_goLine_88 : decode cX6_goLine 88 = .ok (.aload_n 0, 1) := by decide +kernel
theorem dX6_goLine_89 : decode cX6_goLine 89 = .ok (.getfield 34, 3) := by decide +kernel
theorem dX6_goLine_92 : decode cX6_goLine 92 = .ok (.getfield 193, 3) := by decide +kernel
theorem dX6_goLine_95 : decode cX6_goLine 95 = .ok (.getfield 197, 3) := by decide +kernel
theorem dX6_goLine_98 : decode cX6_goLine 98 = .ok (.putfield 202, 3) := by decide +kernel
theorem dX6_goLine_101 : decode cX6_goLine 101 = .ok (.aload_n 0, 1) := by decide +kernel
theorem dX6_goLine_102 : decode cX6_goLine 102 = .ok (.getstatic 205, 3) := by decide +kernel
theorem dX6_goLine_105 : decode cX6_goLine 105 = .ok (.invokevirtual 79, 3) := by decide +kernel
theorem dX6_goLine_108 : decode cX6_goLine 108 = .ok (.ifCond .eq 13, 3) := by decide +kernel
theorem dX6_goLine_111 : decode cX6_goLine 111 = .ok (.aload_n 0, 1) := by decide +kernel
theorem dX6_goLine_112 : decode cX6_goLine 112 = .ok (.iconst 0, 1) := by decide +kernel
theorem dX6_goLine_113 : decode cX6_goLine 113 = .ok (.invokevirtual 208, 3) := by decide +kernel
theorem dX6_goLine_116 : decode cX6_goLine 116 = .ok (.ifCond .ne 5, 3) := by decide +kernel
theorem dX6_goLine_119 : decode cX6_goLine 119 = .ok (.iconst 0, 1) := by decide +kernel
theorem dX6_goLine_120 : decode cX6_goLine 120 = .ok (.ireturn, 1) := by decide +kernel
theorem dX6_goLine_121 : decode cX6_goLine 121 = .ok (.aload_n 1, 1) := by decide +kernel
theorem dX6_goLine_122 : decode cX6_goLine 122 = .ok (.aload_n 0, 1) := by decide +kernel
theorem dX6_goLine_123 : decode cX6_goLine 123 = .ok (.getfield 34, 3) := by decide +kernel
theorem dX6_goLine_126 : decode cX6_goLine 126 = .ok (.getfield 193, 3) := by decide +kernel
theorem dX6_goLine_129 : decode cX6_goLine 129 = .ok (.getfield 197, 3) := by decide +kernel
theorem dX6_goLine_132 : decode cX6_goLine 132 = .ok (.putfield 212, 3) := by decide +kernel
theorem dX6_goLine_135 : decode cX6_goLine 135 = .ok (.iconst 1, 1) := by decide +kernel
theorem dX6_goLine_136 : decode cX6_goLine 136 = .ok (.ireturn, 1) := by decide +kernel
set_option maxRecDepth 20000 in
theorem ggX6_goLine_X7_nextGo : GoodIn wsX6_goLine wsX7_nextGo := goodIn_r _ [29, 30, 31, 32, 33, 34, 35, 131, 132, 133, 134, 135, 136, 137, 138, 139, 140, 141, 142, 143, 144, 145, 146, 147] (by decide +kernel) (by decide +kernel)
set_option maxRecDepth 20000 in
theorem gX6_goLine_X7_nextGo : GoodIn wsX6_goLine (wsV RX6 172 RX7 yX7_nextGo wsX7_nextGo) := goodIn_app (goodIn_of _ (by decide +kernel)) ggX6_goLine_X7_nextGo
set_option maxRecDepth 20000 in
theorem ggX6_goLine_X6_take : GoodIn wsX6_goLine wsX6_take := goodIn_r _ [39, 23, 21, 40, 122, 123, 124, 125, 126, 127, 128, 129, 130, 156, 157, 158, 159, 160, 161] (by decide +kernel) (by decide +kernel)
set_option maxRecDepth 20000 in
theorem gX6_goLine_X6_take : GoodIn wsX6_goLine (wsV RX6 79 RX6 yX6_take wsX6_take) := goodIn_app (goodIn_of _ (by decide +kernel)) ggX6_goLine_X6_take
set_option maxRecDepth 20000 in
theorem ggX6_goLine_X6_takeKnown : GoodIn wsX6_goLine wsX6_takeKnown := goodIn_2 24 (goodIn_r _ [44, 45, 21, 46, 23, 5, 47, 48, 49, 18, 50, 40, 51, 52, 53, 54, 55, 56, 57, 15, 16, 17, 19, 20] (by decide +kernel) (by decide +kernel)) (goodIn_r _ [22, 24, 36, 37, 38, 39, 122, 123, 124, 125, 126, 127, 128, 129, 130, 156, 157, 158, 159, 160, 161, 162, 163] (by decide +kernel) (by decide +kernel))
set_option maxRecDepth 20000 in
theorem gX6_goLine_X6_takeKnown : GoodIn wsX6_goLine (wsV RX6 179 RX6 yX6_takeKnown wsX6_takeKnown) := goodIn_app (goodIn_of _ (by decide +kernel)) ggX6_goLine_X6_takeKnown
set_option maxRecDepth 20000 in
theorem ggX6_goLine_X6_test : GoodIn wsX6_goLine wsX6_test := goodIn_2 24 (goodIn_r _ [61, 62, 1, 10, 63, 64, 65, 18, 36, 37, 38, 39, 23, 21, 40, 66, 67, 68, 69, 70, 71, 72, 73, 74] (by decide +kernel) (by decide +kernel)) (goodIn_2 24 (goodIn_r _ [75, 76, 77, 78, 79, 80, 81, 82, 83, 84, 4, 5, 47, 48, 49, 50, 85, 86, 87, 88, 89, 90, 91, 58] (by decide +kernel) (by decide +kernel)) (goodIn_2 24 (goodIn_r _ [59, 60, 41, 42, 43, 44, 45, 46, 51, 52, 53, 54, 55, 56, 57, 15, 16, 17, 19, 20, 22, 24, 92, 93] (by decide +kernel) (by decide +kernel)) (goodIn_2 24 (goodIn_r _ [94, 95, 96, 97, 98, 99, 100, 101, 102, 103, 104, 105, 106, 107, 108, 8, 109, 110, 111, 112, 113, 114, 115, 116] (by decide +kernel) (by decide +kernel)) (goodIn_2 24 (goodIn_r _ [117, 118, 119, 120, 121, 122, 123, 124, 125, 126, 127, 128, 129, 130, 131, 132, 133, 134, 135, 136, 137, 138, 139, 140] (by decide +kernel) (by decide +kernel)) (goodIn_r _ [141, 142, 143, 144, 145, 146, 147, 156, 157, 158, 159, 160, 161, 152, 153, 154, 155, 162, 163] (by decide +kernel) (by decide +kernel))))))
set_option maxRecDepth 20000 in
theorem gX6_goLine_X6_test : GoodIn wsX6_goLine (wsV RX6 208 RX6 yX6_test wsX6_test) := goodIn_app (goodIn_of _ (by decide +kernel)) ggX6_goLine_X6_test
set_option maxRecDepth 20000 in
theorem ggX6_goLine_X6_noteError : GoodIn wsX6_goLine wsX6_noteError := goodIn_r _ [19, 20, 21, 22, 23, 24, 122, 123, 124, 125, 126, 127, 128, 129, 130, 156, 157, 158, 159, 160, 161] (by decide +kernel) (by decide +kernel)
set_option maxRecDepth 20000 in
theorem gX6_goLine_X6_noteError : GoodIn wsX6_goLine (wsV RX6 133 RX6 yX6_noteError wsX6_noteError) := goodIn_app (goodIn_of _ (by decide +kernel)) ggX6_goLine_X6_noteError
theorem k_X6_goLine_f34 : Cond.fieldLink RX6 34 "TideLots$Reader" "built" "LTideLots$Shore;" ∈ wsX6_goLine := by decide +kernel
theorem i_X6_goLine_X6 : ∀ w ∈ u_ws RX6 TX6 9, w ∈ wsX6_goLine := by decide +kernel
theorem k_X6_goLine_f193 : Cond.fieldLink RX6 193 "TideLots$Shore" "sums" "LTideLots$Sums;" ∈ wsX6_goLine := by decide +kernel
theorem i_X6_goLine_X7 : ∀ w ∈ u_ws RX7 TX7 17, w ∈ wsX6_goLine := by decide +kernel
theorem k_X6_goLine_f197 : Cond.fieldLink RX6 197 "TideLots$Sums" "length" "I" ∈ wsX6_goLine := by decide +kernel
theorem i_X6_goLine_X9 : ∀ w ∈ u_ws RX9 TX9 4, w ∈ wsX6_goLine := by decide +kernel
theorem k_X6_goLine_f212 : Cond.fieldLink RX6 212 "TideLots$Go" "testEnd" "I" ∈ wsX6_goLine := by decide +kernel
theorem i_X6_goLine_X2 : ∀ w ∈ u_ws RX2 TX2 4, w ∈ wsX6_goLine := by decide +kernel
theorem k_X6_goLine_f176 : Cond.fieldLink RX6 176 "TideLots$Sign" "GO" "LTideLots$Sign;" ∈ wsX6_goLine := by decide +kernel
theorem k_X6_goLine_f24 : Cond.fieldLink RX6 24 "TideLots$Reader" "fisherNames" "LTideLots$Names;" ∈ wsX6_goLine := by decide +kernel
theorem k_X6_goLine_f112 : Cond.fieldLink RX6 112 "TideLots$Reader" "number" "I" ∈ wsX6_goLine := by decide +kernel
theorem k_X6_goLine_f182 : Cond.fieldLink RX6 182 "TideLots$Go" "fisher" "I" ∈ wsX6_goLine := by decide +kernel
theorem k_X6_goLine_f187 : Cond.fieldLink RX6 187 "TideLots$Sign" "TO" "LTideLots$Sign;" ∈ wsX6_goLine := by decide +kernel
theorem k_X6_goLine_f20 : Cond.fieldLink RX6 20 "TideLots$Reader" "groundNames" "LTideLots$Names;" ∈ wsX6_goLine := by decide +kernel
theorem k_X6_goLine_f190 : Cond.fieldLink RX6 190 "TideLots$Go" "ground" "I" ∈ wsX6_goLine := by decide +kernel
theorem k_X6_goLine_f202 : Cond.fieldLink RX6 202 "TideLots$Go" "testStart" "I" ∈ wsX6_goLine := by decide +kernel
theorem k_X6_goLine_f205 : Cond.fieldLink RX6 205 "TideLots$Sign" "WHEN" "LTideLots$Sign;" ∈ wsX6_goLine := by decide +kernel
theorem k_X6_goLine_f169 : Cond.fieldLink RX6 169 "TideLots$Shore" "goCount" "I" ∈ wsX6_goLine := by decide +kernel
abbrev rX6_goLine : Room := { frames := 67, cells := 0, slots := 0, locals := 2626 }
noncomputable def b_X6_goLine_121 (Z : Nat → Nat) (M : gMem) (x0 : Nat) (x1 : Option Nat) : Option (Int32 × gMem) :=
  ck (mT M x0 = 6) <| dr ((mR M x0 2)) fun a2 => ck (mT M a2 = 7) <| dr ((mR M a2 10)) fun a4 => ck (mT M a4 = 8) <| dr x1 fun a6 => ck (mT M a6 = 2) <| lw (wI M a6 3 ((mI M a4 0))) fun M8 => some ((1 : Int32), M8)
noncomputable def b_X6_goLine_77 (Z : Nat → Nat) (M : gMem)  : Option (Int32 × gMem) :=
  some ((0 : Int32), M)
noncomputable def b_X6_goLine_46 (Z : Nat → Nat) (M : gMem)  : Option (Int32 × gMem) :=
  some ((0 : Int32), M)
noncomputable def b_X6_goLine_17 (Z : Nat → Nat) (M : gMem) (x0 : Nat) : Option (Int32 × gMem) :=
  ck (mT M x0 = 6) <| dr ((mR M x0 2)) fun a15 => ck (mT M a15 = 7) <| bd (f_X7_nextGo M a15) fun r14 M14 => ck (mT M14 x0 = 6) <| bd (f_X6_take M14 x0 ((some (Z 7)))) fun r17 M17 => (if r17 = 0 then b_X6_goLine_46 Z M17  else ck (mT M17 x0 = 6) <| bd (f_X6_takeKnown Z M17 x0 ((mR M17 x0 4))) fun r20 M20 => (if r20 = 0 then b_X6_goLine_46 Z M20  else ck (mT M20 x0 = 6) <| dr r14 fun a22 => ck (mT M20 a22 = 2) <| lw (wI M20 a22 0 ((mI M20 x0 8))) fun M24 => bd (f_X6_take M24 x0 ((some (Z 8)))) fun r27 M27 => (if r27 = 0 then b_X6_goLine_77 Z M27  else ck (mT M27 x0 = 6) <| bd (f_X6_takeKnown Z M27 x0 ((mR M27 x0 3))) fun r29 M29 => (if r29 = 0 then b_X6_goLine_77 Z M29  else ck (mT M29 x0 = 6) <| ck (mT M29 a22 = 2) <| lw (wI M29 a22 1 ((mI M29 x0 8))) fun M32 => dr ((mR M32 x0 2)) fun a35 => ck (mT M32 a35 = 7) <| dr ((mR M32 a35 10)) fun a37 => ck (mT M32 a37 = 8) <| lw (wI M32 a22 2 ((mI M32 a37 0))) fun M39 => bd (f_X6_take M39 x0 ((some (Z 9)))) fun r44 M44 => (if r44 = 0 then b_X6_goLine_121 Z M44 x0 r14 else ck (mT M44 x0 = 6) <| bd (f_X6_test Z M44 x0 ((0 : Int32))) fun r45 M45 => (if r45 = 0 then some ((0 : Int32), M45) else b_X6_goLine_121 Z M45 x0 r14))))))
noncomputable def b_X6_goLine_0 (Z : Nat → Nat) (M : gMem) (x0 : Nat) : Option (Int32 × gMem) :=
  ck (mT M x0 = 6) <| dr ((mR M x0 2)) fun a48 => ck (mT M a48 = 7) <| (if (mI M a48 4) < (24 : Int32) then b_X6_goLine_17 Z M x0 else bd (f_X6_noteError M x0 ((4 : Int32))) fun _ M50 => b_X6_goLine_17 Z M50 x0)
noncomputable def f_X6_goLine (Z : Nat → Nat) (M : gMem) (x0 : Nat) : Option (Int32 × gMem) :=
  b_X6_goLine_0 Z M x0
set_option maxHeartbeats 4000000 in
set_option maxRecDepth 100000 in
theorem t_X6_goLine_121 (X : gX p s m args meth c D cy B (gSt Z B H0) RX6 cX6_goLine wsX6_goLine 2) (hr : meth.sig.returnType = (some .boolean)) {Q : State → Prop} : ∀ (M : gMem) (x0 : Nat) (x1 : Option Nat) (z : Int32 × gMem), b_X6_goLine_121 Z M x0 x1 = some z → (fun (r : Int32 × gMem) => Q = gMQ below D cy B H0 args s 0 0 (some (vI r.1)) r.2) z → gGo p l e rX6_goLine s m args below meth c D cy B H0 2 0 0 Q 121 [(0, vR (some x0)), (1, vR x1)] [] M := by
  intro M x0 x1 z hf hK
  unfold b_X6_goLine_121 at hf
  refine g_aload_n X dX6_goLine_121 rfl rfl ?_
  refine g_aload_n X dX6_goLine_122 rfl rfl ?_
  obtain ⟨hT1, hf⟩ := ck_e hf
  refine g_get (ci := 5) (v := vR (mR M x0 2)) 2 X cdX6 i_X6_goLine_X6 (by decide) k_X6_goLine_f34 rfl dX6_goLine_123 rfl hT1 rfl ?_
  obtain ⟨a2, ha2, hf⟩ := dr_e hf
  obtain ⟨hT3, hf⟩ := ck_e hf
  refine g_get (ci := 6) (v := vR (mR M a2 10)) 10 X cdX7 i_X6_goLine_X7 (by decide) k_X6_goLine_f193 rfl dX6_goLine_126 ha2 hT3 rfl ?_
  obtain ⟨a4, ha4, hf⟩ := dr_e hf
  obtain ⟨hT5, hf⟩ := ck_e hf
  refine g_get (ci := 7) (v := vI (mI M a4 0)) 0 X cdX9 i_X6_goLine_X9 (by decide) k_X6_goLine_f197 rfl dX6_goLine_129 ha4 hT5 rfl ?_
  obtain ⟨a6, ha6, hf⟩ := dr_e hf
  obtain ⟨hT7, hf⟩ := ck_e hf
  refine g_putI (ci := 1) 3 X cdX2 i_X6_goLine_X2 (by decide) k_X6_goLine_f212 rfl dX6_goLine_132 ha6 hT7 (Or.inl rfl) rfl rfl rfl ?_
  obtain ⟨M8, hM8, hf⟩ := lw_e hf
  rw [← hM8]
  have hT9 : mT M8 x0 = 6 := by rw [hM8]; exact hT1
  have hT10 : mT M8 a2 = 7 := by rw [hM8]; exact hT3
  have hT11 : mT M8 a4 = 8 := by rw [hM8]; exact hT5
  have hT12 : mT M8 a6 = 2 := by rw [hM8]; exact hT7
  refine g_iconst (v := (1 : Int32)) X dX6_goLine_135 (by decide) ?_
  cases hf
  refine g_eqQ hK ?_
  exact g_zret X hr (gnb (Or.inr rfl)) dX6_goLine_136
set_option maxHeartbeats 4000000 in
set_option maxRecDepth 100000 in
theorem t_X6_goLine_77 (X : gX p s m args meth c D cy B (gSt Z B H0) RX6 cX6_goLine wsX6_goLine 2) (hr : meth.sig.returnType = (some .boolean)) {Q : State → Prop} : ∀ (M : gMem)  (z : Int32 × gMem), b_X6_goLine_77 Z M  = some z → (fun (r : Int32 × gMem) => Q = gMQ below D cy B H0 args s 0 0 (some (vI r.1)) r.2) z → gGo p l e rX6_goLine s m args below meth c D cy B H0 2 0 0 Q 77 [] [] M := by
  intro M  z hf hK
  unfold b_X6_goLine_77 at hf
  refine g_iconst (v := (0 : Int32)) X dX6_goLine_77 (by decide) ?_
  cases hf
  refine g_eqQ hK ?_
  exact g_zret X hr (gnb (Or.inl rfl)) dX6_goLine_78
set_option maxHeartbeats 4000000 in
set_option maxRecDepth 100000 in
theorem t_X6_goLine_46 (X : gX p s m args meth c D cy B (gSt Z B H0) RX6 cX6_goLine wsX6_goLine 2) (hr : meth.sig.returnType = (some .boolean)) {Q : State → Prop} : ∀ (M : gMem)  (z : Int32 × gMem), b_X6_goLine_46 Z M  = some z → (fun (r : Int32 × gMem) => Q = gMQ below D cy B H0 args s 0 0 (some (vI r.1)) r.2) z → gGo p l e rX6_goLine s m args below meth c D cy B H0 2 0 0 Q 46 [] [] M := by
  intro M  z hf hK
  unfold b_X6_goLine_46 at hf
  refine g_iconst (v := (0 : Int32)) X dX6_goLine_46 (by decide) ?_
  cases hf
  refine g_eqQ hK ?_
  exact g_zret X hr (gnb (Or.inl rfl)) dX6_goLine_47
set_option maxHeartbeats 4000000 in
set_option maxRecDepth 100000 in
theorem t_X6_goLine_17 (X : gX p s m args meth c D cy B (gSt Z B H0) RX6 cX6_goLine wsX6_goLine 2) (hr : meth.sig.returnType = (some .boolean)) {Q : State → Prop} : ∀ (M : gMem) (x0 : Nat) (z : Int32 × gMem), b_X6_goLine_17 Z M x0 = some z → (fun (r : Int32 × gMem) => Q = gMQ below D cy B H0 args s 0 0 (some (vI r.1)) r.2) z → gGo p l e rX6_goLine s m args below meth c D cy B H0 2 0 0 Q 17 [(0, vR (some x0))] [] M := by
  intro M x0 z hf hK
  unfold b_X6_goLine_17 at hf
  refine g_aload_n X dX6_goLine_17 rfl rfl ?_
  obtain ⟨hT13, hf⟩ := ck_e hf
  refine g_get (ci := 5) (v := vR (mR M x0 2)) 2 X cdX6 i_X6_goLine_X6 (by decide) k_X6_goLine_f34 rfl dX6_goLine_18 rfl hT13 rfl ?_
  obtain ⟨a15, ha15, hf⟩ := dr_e hf
  obtain ⟨hT16, hf⟩ := ck_e hf
  obtain ⟨r14, M14, hq14, hf⟩ := bd_e hf
  refine g_callV (ci := 6) (b := a15) (As := []) (st := []) (v := some (vR r14)) (M1 := M14) X (m_X7_nextGo l hq14) (cwV 0 X.2.2.1 gX6_goLine_X7_nextGo rfl rfl rfl (by decide +kernel) ⟨Nat.le_of_ble_eq_true rfl, Nat.le_of_ble_eq_true rfl⟩) rfl rfl ha15 hT16 (by decide) rfl (Nat.le_of_ble_eq_true rfl) dX6_goLine_21 ⟨by decide, by decide⟩ ?_
  refine g_astore_n (lv' := [(1, vR r14), (0, vR (some x0))]) X dX6_goLine_24 rfl (by decide) rfl ?_
  refine g_aload_n X dX6_goLine_25 rfl rfl ?_
  refine g_gets (w := vR (some (Z 7))) X (gSt_E X 7 (by decide)) k_X6_goLine_f176 rfl dX6_goLine_26 ?_
  obtain ⟨hT18, hf⟩ := ck_e hf
  obtain ⟨r17, M17, hq17, hf⟩ := bd_e hf
  refine g_callV (ci := 5) (b := x0) (As := [vR (some (Z 7))]) (st := []) (v := some (vI r17)) (M1 := M17) X (m_X6_take l hq17) (cwV 1 X.2.2.1 gX6_goLine_X6_take rfl rfl rfl (by decide +kernel) ⟨Nat.le_of_ble_eq_true rfl, Nat.le_of_ble_eq_true rfl⟩) rfl rfl rfl hT18 (by decide) rfl (Nat.le_of_ble_eq_true rfl) dX6_goLine_29 ⟨by decide, by decide⟩ ?_
  refine g_if_eq (tgt := 46) X dX6_goLine_32 (by decide) (fun hc => ?_) (fun hc => ?_)
  · have hf := ife_t hc hf
    refine g_sub (lvsub_of _ _ [] rfl) ?_
    exact t_X6_goLine_46 X hr _  _ hf hK
  · have hf := ife_f hc hf
    refine g_aload_n X dX6_goLine_35 rfl rfl ?_
    refine g_aload_n X dX6_goLine_36 rfl rfl ?_
    obtain ⟨hT19, hf⟩ := ck_e hf
    refine g_get (ci := 5) (v := vR (mR M17 x0 4)) 4 X cdX6 i_X6_goLine_X6 (by decide) k_X6_goLine_f24 rfl dX6_goLine_37 rfl hT19 rfl ?_
    obtain ⟨r20, M20, hq20, hf⟩ := bd_e hf
    refine g_callV (ci := 5) (b := x0) (As := [vR (mR M17 x0 4)]) (st := []) (v := some (vI r20)) (M1 := M20) X (m_X6_takeKnown l hq20) (cwV 1 X.2.2.1 gX6_goLine_X6_takeKnown rfl rfl rfl (by decide +kernel) ⟨Nat.le_of_ble_eq_true rfl, Nat.le_of_ble_eq_true rfl⟩) rfl rfl rfl hT19 (by decide) rfl (Nat.le_of_ble_eq_true rfl) dX6_goLine_40 ⟨by decide, by decide⟩ ?_
    refine g_if_ne (tgt := 48) X dX6_goLine_43 (by decide) (fun hc => ?_) (fun hc => ?_)
    · have hf := ife_f hc hf
      refine g_aload_n X dX6_goLine_48 rfl rfl ?_
      refine g_aload_n X dX6_goLine_49 rfl rfl ?_
      obtain ⟨hT21, hf⟩ := ck_e hf
      refine g_get (ci := 5) (v := vI (mI M20 x0 8)) 8 X cdX6 i_X6_goLine_X6 (by decide) k_X6_goLine_f112 rfl dX6_goLine_50 rfl hT21 rfl ?_
      obtain ⟨a22, ha22, hf⟩ := dr_e hf
      obtain ⟨hT23, hf⟩ := ck_e hf
      refine g_putI (ci := 1) 0 X cdX2 i_X6_goLine_X2 (by decide) k_X6_goLine_f182 rfl dX6_goLine_53 ha22 hT23 (Or.inl rfl) rfl rfl rfl ?_
      obtain ⟨M24, hM24, hf⟩ := lw_e hf
      rw [← hM24]
      have hT25 : mT M24 x0 = 6 := by rw [hM24]; exact hT21
      have hT26 : mT M24 a22 = 2 := by rw [hM24]; exact hT23
      refine g_aload_n X dX6_goLine_56 rfl rfl ?_
      refine g_gets (w := vR (some (Z 8))) X (gSt_E X 8 (by decide)) k_X6_goLine_f187 rfl dX6_goLine_57 ?_
      obtain ⟨r27, M27, hq27, hf⟩ := bd_e hf
      refine g_callV (ci := 5) (b := x0) (As := [vR (some (Z 8))]) (st := []) (v := some (vI r27)) (M1 := M27) X (m_X6_take l hq27) (cwV 1 X.2.2.1 gX6_goLine_X6_take rfl rfl rfl (by decide +kernel) ⟨Nat.le_of_ble_eq_true rfl, Nat.le_of_ble_eq_true rfl⟩) rfl rfl rfl hT25 (by decide) rfl (Nat.le_of_ble_eq_true rfl) dX6_goLine_60 ⟨by decide, by decide⟩ ?_
      refine g_if_eq (tgt := 77) X dX6_goLine_63 (by decide) (fun hc => ?_) (fun hc => ?_)
      · have hf := ife_t hc hf
        refine g_sub (lvsub_of _ _ [] rfl) ?_
        exact t_X6_goLine_77 X hr _  _ hf hK
      · have hf := ife_f hc hf
        refine g_aload_n X dX6_goLine_66 rfl rfl ?_
        refine g_aload_n X dX6_goLine_67 rfl rfl ?_
        obtain ⟨hT28, hf⟩ := ck_e hf
        refine g_get (ci := 5) (v := vR (mR M27 x0 3)) 3 X cdX6 i_X6_goLine_X6 (by decide) k_X6_goLine_f20 rfl dX6_goLine_68 rfl hT28 rfl ?_
        obtain ⟨r29, M29, hq29, hf⟩ := bd_e hf
        refine g_callV (ci := 5) (b := x0) (As := [vR (mR M27 x0 3)]) (st := []) (v := some (vI r29)) (M1 := M29) X (m_X6_takeKnown l hq29) (cwV 1 X.2.2.1 gX6_goLine_X6_takeKnown rfl rfl rfl (by decide +kernel) ⟨Nat.le_of_ble_eq_true rfl, Nat.le_of_ble_eq_true rfl⟩) rfl rfl rfl hT28 (by decide) rfl (Nat.le_of_ble_eq_true rfl) dX6_goLine_71 ⟨by decide, by decide⟩ ?_
        refine g_if_ne (tgt := 79) X dX6_goLine_74 (by decide) (fun hc => ?_) (fun hc => ?_)
        · have hf := ife_f hc hf
          refine g_aload_n X dX6_goLine_79 rfl rfl ?_
          refine g_aload_n X dX6_goLine_80 rfl rfl ?_
          obtain ⟨hT30, hf⟩ := ck_e hf
          refine g_get (ci := 5) (v := vI (mI M29 x0 8)) 8 X cdX6 i_X6_goLine_X6 (by decide) k_X6_goLine_f112 rfl dX6_goLine_81 rfl hT30 rfl ?_
          obtain ⟨hT31, hf⟩ := ck_e hf
          refine g_putI (ci := 1) 1 X cdX2 i_X6_goLine_X2 (by decide) k_X6_goLine_f190 rfl dX6_goLine_84 ha22 hT31 (Or.inl rfl) rfl rfl rfl ?_
          obtain ⟨M32, hM32, hf⟩ := lw_e hf
          rw [← hM32]
          have hT33 : mT M32 x0 = 6 := by rw [hM32]; exact hT30
          have hT34 : mT M32 a22 = 2 := by rw [hM32]; exact hT31
          refine g_aload_n X dX6_goLine_87 rfl rfl ?_
          refine g_aload_n X dX6_goLine_88 rfl rfl ?_
          refine g_get (ci := 5) (v := vR (mR M32 x0 2)) 2 X cdX6 i_X6_goLine_X6 (by decide) k_X6_goLine_f34 rfl dX6_goLine_89 rfl hT33 rfl ?_
          obtain ⟨a35, ha35, hf⟩ := dr_e hf
          obtain ⟨hT36, hf⟩ := ck_e hf
          refine g_get (ci := 6) (v := vR (mR M32 a35 10)) 10 X cdX7 i_X6_goLine_X7 (by decide) k_X6_goLine_f193 rfl dX6_goLine_92 ha35 hT36 rfl ?_
          obtain ⟨a37, ha37, hf⟩ := dr_e hf
          obtain ⟨hT38, hf⟩ := ck_e hf
          refine g_get (ci := 7) (v := vI (mI M32 a37 0)) 0 X cdX9 i_X6_goLine_X9 (by decide) k_X6_goLine_f197 rfl dX6_goLine_95 ha37 hT38 rfl ?_
          refine g_putI (ci := 1) 2 X cdX2 i_X6_goLine_X2 (by decide) k_X6_goLine_f202 rfl dX6_goLine_98 ha22 hT34 (Or.inl rfl) rfl rfl rfl ?_
          obtain ⟨M39, hM39, hf⟩ := lw_e hf
          rw [← hM39]
          have hT40 : mT M39 x0 = 6 := by rw [hM39]; exact hT33
          have hT41 : mT M39 a22 = 2 := by rw [hM39]; exact hT34
          have hT42 : mT M39 a35 = 7 := by rw [hM39]; exact hT36
          have hT43 : mT M39 a37 = 8 := by rw [hM39]; exact hT38
          refine g_aload_n X dX6_goLine_101 rfl rfl ?_
          refine g_gets (w := vR (some (Z 9))) X (gSt_E X 9 (by decide)) k_X6_goLine_f205 rfl dX6_goLine_102 ?_
          obtain ⟨r44, M44, hq44, hf⟩ := bd_e hf
          refine g_callV (ci := 5) (b := x0) (As := [vR (some (Z 9))]) (st := []) (v := some (vI r44)) (M1 := M44) X (m_X6_take l hq44) (cwV 1 X.2.2.1 gX6_goLine_X6_take rfl rfl rfl (by decide +kernel) ⟨Nat.le_of_ble_eq_true rfl, Nat.le_of_ble_eq_true rfl⟩) rfl rfl rfl hT40 (by decide) rfl (Nat.le_of_ble_eq_true rfl) dX6_goLine_105 ⟨by decide, by decide⟩ ?_
          refine g_if_eq (tgt := 121) X dX6_goLine_108 (by decide) (fun hc => ?_) (fun hc => ?_)
          · have hf := ife_t hc hf
            refine g_sub (lvsub_of _ _ [1, 0] rfl) ?_
            exact t_X6_goLine_121 X hr _ _ _ _ hf hK
          · have hf := ife_f hc hf
            refine g_aload_n X dX6_goLine_111 rfl rfl ?_
            refine g_iconst (v := (0 : Int32)) X dX6_goLine_112 (by decide) ?_
            obtain ⟨hT46, hf⟩ := ck_e hf
            obtain ⟨r45, M45, hq45, hf⟩ := bd_e hf
            refine g_callV (ci := 5) (b := x0) (As := [vI (0 : Int32)]) (st := []) (v := some (vI r45)) (M1 := M45) X (m_X6_test l hq45) (cwV 1 X.2.2.1 gX6_goLine_X6_test rfl rfl rfl (by decide +kernel) ⟨Nat.le_of_ble_eq_true rfl, Nat.le_of_ble_eq_true rfl⟩) rfl rfl rfl hT46 (by decide) rfl (Nat.le_of_ble_eq_true rfl) dX6_goLine_113 ⟨by decide, by decide⟩ ?_
            refine g_if_ne (tgt := 121) X dX6_goLine_116 (by decide) (fun hc => ?_) (fun hc => ?_)
            · have hf := ife_f hc hf
              refine g_sub (lvsub_of _ _ [1, 0] rfl) ?_
              exact t_X6_goLine_121 X hr _ _ _ _ hf hK
            · have hf := ife_t hc hf
              refine g_iconst (v := (0 : Int32)) X dX6_goLine_119 (by decide) ?_
              cases hf
              refine g_eqQ hK ?_
              exact g_zret X hr (gnb (Or.inl rfl)) dX6_goLine_120
        · have hf := ife_t hc hf
          refine g_sub (lvsub_of _ _ [] rfl) ?_
          exact t_X6_goLine_77 X hr _  _ hf hK
    · have hf := ife_t hc hf
      refine g_sub (lvsub_of _ _ [] rfl) ?_
      exact t_X6_goLine_46 X hr _  _ hf hK
set_option maxHeartbeats 4000000 in
set_option maxRecDepth 100000 in
theorem t_X6_goLine_0 (X : gX p s m args meth c D cy B (gSt Z B H0) RX6 cX6_goLine wsX6_goLine 2) (hr : meth.sig.returnType = (some .boolean)) {Q : State → Prop} : ∀ (M : gMem) (x0 : Nat) (z : Int32 × gMem), b_X6_goLine_0 Z M x0 = some z → (fun (r : Int32 × gMem) => Q = gMQ below D cy B H0 args s 0 0 (some (vI r.1)) r.2) z → gGo p l e rX6_goLine s m args below meth c D cy B H0 2 0 0 Q 0 [(0, vR (some x0))] [] M := by
  intro M x0 z hf hK
  unfold b_X6_goLine_0 at hf
  refine g_aload_n X dX6_goLine_0 rfl rfl ?_
  obtain ⟨hT47, hf⟩ := ck_e hf
  refine g_get (ci := 5) (v := vR (mR M x0 2)) 2 X cdX6 i_X6_goLine_X6 (by decide) k_X6_goLine_f34 rfl dX6_goLine_1 rfl hT47 rfl ?_
  obtain ⟨a48, ha48, hf⟩ := dr_e hf
  obtain ⟨hT49, hf⟩ := ck_e hf
  refine g_get (ci := 6) (v := vI (mI M a48 4)) 4 X cdX7 i_X6_goLine_X7 (by decide) k_X6_goLine_f169 rfl dX6_goLine_4 ha48 hT49 rfl ?_
  refine g_bipush (v := (24 : Int32)) X dX6_goLine_7 (by decide) ?_
  refine g_icmp_lt (tgt := 17) X dX6_goLine_9 (by decide) (fun hc => ?_) (fun hc => ?_)
  · have hf := ife_t hc hf
    refine g_sub (lvsub_of _ _ [0] rfl) ?_
    exact t_X6_goLine_17 X hr _ _ _ hf hK
  · have hf := ife_f hc hf
    refine g_aload_n X dX6_goLine_12 rfl rfl ?_
    refine g_iconst (v := (4 : Int32)) X dX6_goLine_13 (by decide) ?_
    obtain ⟨r50, M50, hq50, hf⟩ := bd_e hf
    refine g_callV (ci := 5) (b := x0) (As := [vI (4 : Int32)]) (st := []) (v := none) (M1 := M50) X (m_X6_noteError l hq50) (cwV 1 X.2.2.1 gX6_goLine_X6_noteError rfl rfl rfl (by decide +kernel) ⟨Nat.le_of_ble_eq_true rfl, Nat.le_of_ble_eq_true rfl⟩) rfl rfl rfl hT47 (by decide) rfl (Nat.le_of_ble_eq_true rfl) dX6_goLine_14 ⟨by decide, by decide⟩ ?_
    refine g_sub (lvsub_of _ _ [0] rfl) ?_
    exact t_X6_goLine_17 X hr _ _ _ hf hK
set_option maxHeartbeats 4000000 in
set_option maxRecDepth 100000 in
theorem m_X6_goLine (l : Launch) {D : va_G} {cy : Nat → ClassId} {B : Nat} {H0 : Heap} {Z : Nat → Nat} {M M1 : gMem} {x0 : Nat} {r : Int32} (hf : f_X6_goLine Z M x0 = some (r, M1)) : Met l yX6_goLine wsX6_goLine rX6_goLine (va_Pc (Value.ref x0 :: List.map gv []) (gPre D cy B H0 (gSt Z B H0) M)) (gQ D cy B H0 (some (vI r)) M1) 0 0 (gA B) := by
  refine Met.ofW (cc := cX6_goLine) (maxL := 2) (ret := (some .boolean)) (by decide) rfl ?_
  intro p e s m args below meth c s₁ Bd hml hv
  obtain ⟨rfl, hW, hKK, hFs⟩ := hv
  have X : gX p s m _ meth c D cy B (gSt Z B H0) RX6 cX6_goLine wsX6_goLine 2 := ⟨Bd.exec, Bd.bytes, atoms_spec (ws := wsX6_goLine) Bd.pre, findClass_of_methodNamed Bd.named, hml, hKK, by rw [hW.1]; exact hW.2.1, Bd.notSynchronized, hFs⟩
  have hr := Bd.returns
  have hl := lv_entry ([.ref x0]) (n := 2) (Nat.le_of_ble_eq_true rfl)
  show W p l e rX6_goLine s m _ below meth c s.heap [] 0 0 _ (entryFrame m ([.ref x0] : List Value).toArray 2)
  rw [lg_entry_eq]
  generalize (lg_sl ([.ref x0]) ++ List.replicate (2 - (lg_sl ([.ref x0])).length) Slot.unset).toArray = ls at hl ⊢
  have hl : lv_has ls 2 (List.map gq [(0, vR (some x0))]) := hl
  exact t_X6_goLine_0 X hr _ _ _ hf rfl s.heap [] ls hW va_S.rf (lv_has_sub hl (lvsub_of _ _ [0] rfl))
/-! ## TideLots$Reader.pactLine()Z -/
theorem dX6_pactLine_0 : decode cX6_pactLine 0 = .ok (.aload_n 0, 1) := by decide +kernel
theorem dX6_pactLine_1 : decode cX6_pactLine 1 = .ok (.getstatic 215, 3) := by decide +kernel
theorem dX6_pactLine_4 : decode cX6_pactLine 4 = .ok (.invokevirtual 79, 3) := by decide +kernel
theorem dX6_pactLine_7 : decode cX6_pactLine 7 = .ok (.ifCond .eq 14, 3) := by decide +kernel
theorem dX6_pactLine_10 : decode cX6_pactLine 10 = .ok (.aload_n 0, 1) := by decide +kernel
theorem dX6_pactLine_11 : decode cX6_pactLine 11 = .ok (.aload_n 0, 1) := by decide +kernel
theorem dX6_pactLine_12 : decode cX6_pactLine 12 = .ok (.getfield 27, 3) := by decide +kernel
theorem dX6_pactLine_15 : decode cX6_pactLine 15 = .ok (.invokevirtual 97, 3) := by decide +kernel
theorem dX6_pactLine_18 : decode cX6_pactLine 18 = .ok (.ifCond .ne 5, 3) := by decide +kernel
theorem dX6_pactLine_21 : decode cX6_pactLine 21 = .ok (.iconst 0, 1) := by decide +kernel
theorem dX6_pactLine_22 : decode cX6_pactLine 22 = .ok (.ireturn, 1) := by decide +kernel
theorem dX6_pactLine_23 : decode cX6_pactLine 23 = .ok (.aload_n 0, 1) := by decide +kernel
theorem dX6_pactLine_24 : decode cX6_pactLine 24 = .ok (.getfield 34, 3) := by decide +kernel
theorem dX6_pactLine_27 : decode cX6_pactLine 27 = .ok (.invokevirtual 218, 3) := by decide +kernel
theorem dX6_pactLine_30 : decode cX6_pactLine 30 = .ok (.astore_n 1, 1) := by decide +kernel
theorem dX6_pactLine_31 : decode cX6_pactLine 31 = .ok (.aload_n 0, 1) := by decide +kernel
theorem dX6_pactLine_32 : decode cX6_pactLine 32 = .ok (.getstatic 222, 3) := by decide +kernel
theorem dX6_pactLine_35 : decode cX6_pactLine 35 = .ok (.invokevirtual 79, 3) := by decide +kernel
theorem dX6_pactLine_38 : decode cX6_pactLine 38 = .ok (.ifCond .eq 11, 3) := by decide +kernel
theorem dX6_pactLine_41 : decode cX6_pactLine 41 = .ok (.aload_n 0, 1) := by decide +kernel
theorem dX6_pactLine_42 : decode cX6_pactLine 42 = .ok (.aload_n 1, 1) := by decide +kernel
theorem dX6_pactLine_43 : decode cX6_pactLine 43 = .ok (.invokevirtual 225, 3) := by decide +kernel
theorem dX6_pactLine_46 : decode cX6_pactLine 46 = .ok (.ifCond .ne 5, 3) := by decide +kernel
theorem dX6_pactLine_49 : decode cX6_pactLine 49 = .ok (.iconst 0, 1) := by decide +kernel
theorem dX6_pactLine_50 : decode cX6_pactLine 50 = .ok (.ireturn, 1) := by decide +kernel
theorem dX6_pactLine_51 : decode cX6_pactLine 51 = .ok (.iconst 0, 1) := by decide +kernel
theorem dX6_pactLine_52 : decode cX6_pactLine 52 = .ok (.istore_n 2, 1) := by decide +kernel
theorem dX6_pactLine_53 : decode cX6_pactLine 53 = .ok (.iload_n 2, 1) := by decide +kernel
theorem dX6_pactLine_54 : decode cX6_pactLine 54 = .ok (.sipush 400, 3) := by decide +kernel
theorem dX6_pactLine_57 : decode cX6_pactLine 57 = .ok (.if_icmp .ge 29, 3) := by decide +kernel
theorem dX6_pactLine_60 : decode cX6_pactLine 60 = .ok (.aload_n 0, 1) := by decide +kernel
theorem dX6_pactLine_61 : decode cX6_pactLine 61 = .ok (.getstatic 127, 3) := by decide +kernel
theorem dX6_pactLine_64 : decode cX6_pactLine 64 = .ok (.invokevirtual 79, 3) := by decide +kernel
theorem dX6_pactLine_67 : decode cX6_pactLine 67 = .ok (.ifCond .eq 19, 3) := by decide +kernel
theorem dX6_pactLine_70 : decode cX6_pactLine 70 = .ok (.aload_n 0, 1) := by decide +kernel
theorem dX6_pactLine_71 : decode cX6_pactLine 71 = .ok (.aload_n 1, 1) := by decide +kernel
theorem dX6_pactLine_72 : decode cX6_pactLine 72 = .ok (.invokevirtual 225, 3) := by decide +kernel
theorem dX6_pactLine_75 : decode cX6_pactLine 75 = .ok (.ifCond .ne 5, 3) := by decide +kernel
theorem dX6_pactLine_78 : decode cX6_pactLine 78 = .ok (.iconst 0, 1) := by decide +kernel
theorem dX6_pactLine_79 : decode cX6_pactLine 79 = .ok (.ireturn, 1) := by decide +kernel
theorem dX6_pactLine_80 : decode cX6_pactLine 80 = .ok (.iinc 2 1, 3) := by decide +kernel
theorem dX6_pactLine_83 : decode cX6_pactLine 83 = .ok (.goto (-30), 3) := by decide +kernel
theorem dX6_pactLine_86 : decode cX6_pactLine 86 = .ok (.aload_n 0, 1) := by decide +kernel
theorem dX6_pactLine_87 : decode cX6_pactLine 87 = .ok (.getstatic 229, 3) := by decide +kernel
theorem dX6_pactLine_90 : decode cX6_pactLine 90 = .ok (.invokevirtual 79, 3) := by decide +kernel
theorem dX6_pactLine_93 : decode cX6_pactLine 93 = .ok (.ifCond .eq 5, 3) := by decide +kernel
theorem dX6_pactLine_96 : decode cX6_pactLine 96 = .ok (.iconst 1, 1) := by decide +kernel
theorem dX6_pactLine_97 : decode cX6_pactLine 97 = .ok (.ireturn, 1) := by decide +kernel
theorem dX6_pactLine_98 : decode cX6_pactLine 98 = .ok (.aload_n 0, 1) := by decide +kernel
theorem dX6_pactLine_99 : decode cX6_pactLine 99 = .ok (.getstatic 232, 3) := by decide +kernel
theorem dX6_pactLine_102 : decode cX6_pactLine 102 = .ok (.invokevirtual 79, 3) := by decide +kernel
theorem dX6_pactLine_105 : decode cX6_pactLine 105 = .ok (.ifCond .eq 14, 3) := by decide +kernel
theorem dX6_pactLine_108 : decode cX6_pactLine 108 = .ok (.aload_n 0, 1) := by decide +kernel
theorem dX6_pactLine_109 : decode cX6_pactLine 109 = .ok (.aload_n 0, 1) := by decide +kernel
theorem dX6_pactLine_110 : decode cX6_pactLine 110 = .ok (.getfield 20, 3) := by decide +kernel
theorem dX6_pactLine_113 : decode cX6_pactLine 113 = .ok (.invokevirtual 179, 3) := by decide +kernel
theorem dX6_pactLine_116 : decode cX6_pactLine 116 = .ok (.ifCond .ne 5, 3) := by decide +kernel
theorem dX6_pactLine_119 : decode cX6_pactLine 119 = .ok (.iconst 0, 1) := by decide +kernel
theorem dX6_pactLine_120 : decode cX6_pactLine 120 = .ok (.ireturn, 1) := by decide +kernel
theorem dX6_pactLine_121 : decode cX6_pactLine 121 = .ok (.aload_n 1, 1) := by decide +kernel
theorem dX6_pactLine_122 : decode cX6_pactLine 122 = .ok (.aload_n 0, 1) := by decide +kernel
theorem dX6_pactLine_123 : decode cX6_pactLine 123 = .ok (.getfield 112, 3) := by decide +kernel
theorem dX6_pactLine_126 : decode cX6_pactLine 126 = .ok (.putfield 235, 3) := by decide +kernel
theorem dX6_pactLine_129 : decode cX6_pactLine 129 = .ok (.aload_n 1, 1) := by decide +kernel
theorem dX6_pactLine_130 : decode cX6_pactLine 130 = .ok (.aload_n 0, 1) := by decide +kernel
theorem dX6_pactLine_131 : decode cX6_pactLine 131 = .ok (.getfield 34, 3) := by decide +kernel
theorem dX6_pactLine_134 : decode cX6_pactLine 134 = .ok (.getfield 193, 3) := by decide +kernel
theorem dX6_pactLine_137 : decode cX6_pactLine 137 = .ok (.getfield 197, 3) := by decide +kernel
theorem dX6_pactLine_140 : decode cX6_pactLine 140 = .ok (.putfield 238, 3) := by decide +kernel
theorem dX6_pactLine_143 : decode cX6_pactLine 143 = .ok (.aload_n 0, 1) := by decide +kernel
theorem dX6_pactLine_144 : decode cX6_pactLine 144 = .ok (.getstatic 241, 3) := by decide +kernel
theorem dX6_pactLine_147 : decode cX6_pactLine 147 = .ok (.invokevirtual 79, 3) := by decide +kernel
theorem dX6_pactLine_150 : decode cX6_pactLine 150 = .ok (.ifCond .eq 11, 3) := by decide +kernel
theorem dX6_pactLine_153 : decode cX6_pactLine 153 = .ok (.aload_n 0, 1) := by decide +kernel
theorem dX6_pactLine_154 : decode cX6_pactLine 154 = .ok (.iconst 0, 1) := by decide +kernel
theorem dX6_pactLine_155 : decode cX6_pactLine 155 = .ok (.invokevirtual 244, 3) := by decide +kernel
theorem dX6_pactLine_158 : decode cX6_pactLine 158 = .ok (.ifCond .ne 5, 3) := by decide +kernel
theorem dX6_pactLine_161 : decode cX6_pactLine 161 = .ok (.iconst 0, 1) := by decide +kernel
theorem dX6_pactLine_162 : decode cX6_pactLine 162 = .ok (.ireturn, 1) := by decide +kernel
theorem dX6_pactLine_163 : decode cX6_pactLine 163 = .ok (.aload_n 1, 1) := by decide +kernel
theorem dX6_pactLine_164 : decode cX6_pactLine 164 = .ok (.aload_n 0, 1) := by decide +kernel
theorem dX6_pactLine_165 : decode cX6_pactLine 165 = .ok (.getfield 34, 3) := by decide +kernel
theorem dX6_pactLine_168 : decode cX6_pactLine 168 = .ok (.getfield 193, 3) := by decide +kernel
theorem dX6_pactLine_171 : decode cX6_pactLine 171 = .ok (.getfield 197, 3) := by decide +kernel
theorem dX6_pactLine_174 : decode cX6_pactLine 174 = .ok (.putfield 247, 3) := by decide +kernel
theorem dX6_pactLine_177 : decode cX6_pactLine 177 = .ok (.iconst 1, 1) := by decide +kernel
theorem dX6_pactLine_178 : decode cX6_pactLine 178 = .ok (.ireturn, 1) := by decide +kernel
set_option maxRecDepth 20000 in
theorem ggX6_pactLine_X6_take : GoodIn wsX6_pactLine wsX6_take := goodIn_r _ [20, 21, 22, 23, 135, 136, 137, 138, 139, 140, 141, 142, 143, 173, 174, 175, 176, 177, 178] (by decide +kernel) (by decide +kernel)
set_option maxRecDepth 20000 in
theorem gX6_pactLine_X6_take : GoodIn wsX6_pactLine (wsV RX6 79 RX6 yX6_take wsX6_take) := goodIn_app (goodIn_of _ (by decide +kernel)) ggX6_pactLine_X6_take
set_option maxRecDepth 20000 in
theorem ggX6_pactLine_X6_takeKnown : GoodIn wsX6_pactLine wsX6_takeKnown := goodIn_2 24 (goodIn_r _ [89, 28, 22, 29, 21, 9, 30, 31, 32, 19, 33, 23, 34, 35, 36, 37, 38, 39, 40, 41, 42, 43, 44, 45] (by decide +kernel) (by decide +kernel)) (goodIn_r _ [46, 47, 16, 17, 18, 20, 135, 136, 137, 138, 139, 140, 141, 142, 143, 173, 174, 175, 176, 177, 178, 179, 180] (by decide +kernel) (by decide +kernel))
set_option maxRecDepth 20000 in
theorem gX6_pactLine_X6_takeKnown : GoodIn wsX6_pactLine (wsV RX6 179 RX6 yX6_takeKnown wsX6_takeKnown) := goodIn_app (goodIn_of _ (by decide +kernel)) ggX6_pactLine_X6_takeKnown
set_option maxRecDepth 20000 in
theorem ggX6_pactLine_X6_sum : GoodIn wsX6_pactLine wsX6_sum := goodIn_2 24 (goodIn_r _ [97, 98, 99, 3, 11, 100, 101, 102, 19, 30, 31, 32, 33, 22, 23, 21, 16, 17, 18, 20, 103, 104, 105, 106] (by decide +kernel) (by decide +kernel)) (goodIn_2 24 (goodIn_r _ [107, 108, 109, 110, 111, 112, 113, 114, 115, 116, 117, 118, 119, 81, 8, 120, 121, 122, 5, 9, 123, 124, 125, 126] (by decide +kernel) (by decide +kernel)) (goodIn_2 24 (goodIn_r _ [127, 128, 129, 130, 131, 132, 133, 134, 29, 41, 42, 43, 44, 45, 46, 47, 86, 87, 88, 89, 28, 34, 35, 36] (by decide +kernel) (by decide +kernel)) (goodIn_2 24 (goodIn_r _ [37, 38, 39, 40, 94, 95, 96, 135, 136, 137, 138, 139, 140, 141, 142, 143, 152, 153, 154, 155, 156, 157, 158, 159] (by decide +kernel) (by decide +kernel)) (goodIn_r _ [160, 161, 162, 163, 164, 165, 166, 167, 168, 173, 174, 175, 176, 177, 178, 169, 170, 171, 172, 179, 180] (by decide +kernel) (by decide +kernel)))))
set_option maxRecDepth 20000 in
theorem gX6_pactLine_X6_sum : GoodIn wsX6_pactLine (wsV RX6 244 RX6 yX6_sum wsX6_sum) := goodIn_app (goodIn_of _ (by decide +kernel)) ggX6_pactLine_X6_sum
set_option maxRecDepth 20000 in
theorem ggX6_pactLine_X6_takeMember : GoodIn wsX6_pactLine wsX6_takeMember := goodIn_2 24 (goodIn_r _ [80, 28, 81, 22, 29, 21, 9, 30, 31, 32, 19, 33, 23, 34, 35, 36, 37, 38, 39, 40, 82, 83, 84, 67] (by decide +kernel) (by decide +kernel)) (goodIn_2 24 (goodIn_r _ [85, 72, 76, 41, 42, 43, 44, 45, 46, 47, 86, 87, 88, 89, 16, 17, 18, 20, 90, 91, 92, 93, 135, 136] (by decide +kernel) (by decide +kernel)) (goodIn_r _ [137, 138, 139, 140, 141, 142, 143, 173, 174, 175, 176, 177, 178, 179, 180, 144, 145, 146, 147, 148, 149, 150, 151] (by decide +kernel) (by decide +kernel)))
set_option maxRecDepth 20000 in
theorem gX6_pactLine_X6_takeMember : GoodIn wsX6_pactLine (wsV RX6 225 RX6 yX6_takeMember wsX6_takeMember) := goodIn_app (goodIn_of _ (by decide +kernel)) ggX6_pactLine_X6_takeMember
set_option maxRecDepth 20000 in
theorem ggX6_pactLine_X6_takeNew : GoodIn wsX6_pactLine wsX6_takeNew := goodIn_2 24 (goodIn_r _ [27, 28, 22, 29, 21, 30, 31, 32, 19, 33, 23, 34, 35, 36, 37, 38, 39, 40, 41, 42, 43, 44, 45, 46] (by decide +kernel) (by decide +kernel)) (goodIn_2 24 (goodIn_r _ [47, 48, 49, 50, 51, 16, 17, 18, 20, 135, 136, 137, 138, 139, 140, 141, 142, 143, 173, 174, 175, 176, 177, 178] (by decide +kernel) (by decide +kernel)) (goodIn_r _ [179, 180] (by decide +kernel) (by decide +kernel)))
set_option maxRecDepth 20000 in
theorem gX6_pactLine_X6_takeNew : GoodIn wsX6_pactLine (wsV RX6 97 RX6 yX6_takeNew wsX6_takeNew) := goodIn_app (goodIn_of _ (by decide +kernel)) ggX6_pactLine_X6_takeNew
set_option maxRecDepth 20000 in
theorem ggX6_pactLine_X7_nextPact : GoodIn wsX6_pactLine wsX7_nextPact := goodIn_2 24 (goodIn_r _ [56, 57, 58, 59, 60, 61, 62, 63, 64, 65, 66, 67, 68, 69, 70, 71, 72, 73, 74, 75, 76, 152, 153, 154] (by decide +kernel) (by decide +kernel)) (goodIn_r _ [155, 156, 157, 158, 159, 160, 161, 162, 163, 164, 165, 166, 167, 168, 144, 145, 146, 147, 148, 149, 150, 151] (by decide +kernel) (by decide +kernel))
set_option maxRecDepth 20000 in
theorem gX6_pactLine_X7_nextPact : GoodIn wsX6_pactLine (wsV RX6 218 RX7 yX7_nextPact wsX7_nextPact) := goodIn_app (goodIn_of _ (by decide +kernel)) ggX6_pactLine_X7_nextPact
theorem k_X6_pactLine_f229 : Cond.fieldLink RX6 229 "TideLots$Sign" "SPLIT" "LTideLots$Sign;" ∈ wsX6_pactLine := by decide +kernel
theorem k_X6_pactLine_f232 : Cond.fieldLink RX6 232 "TideLots$Sign" "SPARE" "LTideLots$Sign;" ∈ wsX6_pactLine := by decide +kernel
theorem k_X6_pactLine_f20 : Cond.fieldLink RX6 20 "TideLots$Reader" "groundNames" "LTideLots$Names;" ∈ wsX6_pactLine := by decide +kernel
theorem i_X6_pactLine_X6 : ∀ w ∈ u_ws RX6 TX6 9, w ∈ wsX6_pactLine := by decide +kernel
theorem k_X6_pactLine_f112 : Cond.fieldLink RX6 112 "TideLots$Reader" "number" "I" ∈ wsX6_pactLine := by decide +kernel
theorem k_X6_pactLine_f235 : Cond.fieldLink RX6 235 "TideLots$Pact" "ground" "I" ∈ wsX6_pactLine := by decide +kernel
theorem i_X6_pactLine_X5 : ∀ w ∈ u_ws RX5 TX5 8, w ∈ wsX6_pactLine := by decide +kernel
theorem k_X6_pactLine_f34 : Cond.fieldLink RX6 34 "TideLots$Reader" "built" "LTideLots$Shore;" ∈ wsX6_pactLine := by decide +kernel
theorem k_X6_pactLine_f193 : Cond.fieldLink RX6 193 "TideLots$Shore" "sums" "LTideLots$Sums;" ∈ wsX6_pactLine := by decide +kernel
theorem i_X6_pactLine_X7 : ∀ w ∈ u_ws RX7 TX7 17, w ∈ wsX6_pactLine := by decide +kernel
theorem k_X6_pactLine_f197 : Cond.fieldLink RX6 197 "TideLots$Sums" "length" "I" ∈ wsX6_pactLine := by decide +kernel
theorem i_X6_pactLine_X9 : ∀ w ∈ u_ws RX9 TX9 4, w ∈ wsX6_pactLine := by decide +kernel
theorem k_X6_pactLine_f238 : Cond.fieldLink RX6 238 "TideLots$Pact" "sumStart" "I" ∈ wsX6_pactLine := by decide +kernel
theorem k_X6_pactLine_f241 : Cond.fieldLink RX6 241 "TideLots$Sign" "BELOW" "LTideLots$Sign;" ∈ wsX6_pactLine := by decide +kernel
theorem k_X6_pactLine_f247 : Cond.fieldLink RX6 247 "TideLots$Pact" "sumEnd" "I" ∈ wsX6_pactLine := by decide +kernel
theorem k_X6_pactLine_f127 : Cond.fieldLink RX6 127 "TideLots$Sign" "COMMA" "LTideLots$Sign;" ∈ wsX6_pactLine := by decide +kernel
theorem k_X6_pactLine_f215 : Cond.fieldLink RX6 215 "TideLots$Sign" "PACT" "LTideLots$Sign;" ∈ wsX6_pactLine := by decide +kernel
theorem k_X6_pactLine_f27 : Cond.fieldLink RX6 27 "TideLots$Reader" "pactNames" "LTideLots$Names;" ∈ wsX6_pactLine := by decide +kernel
theorem k_X6_pactLine_f222 : Cond.fieldLink RX6 222 "TideLots$Sign" "OF" "LTideLots$Sign;" ∈ wsX6_pactLine := by decide +kernel
abbrev rX6_pactLine : Room := { frames := 67, cells := 0, slots := 0, locals := 2627 }
noncomputable def b_X6_pactLine_161 (Z : Nat → Nat) (M : gMem)  : Option (Int32 × gMem) :=
  some ((0 : Int32), M)
noncomputable def b_X6_pactLine_119 (Z : Nat → Nat) (M : gMem)  : Option (Int32 × gMem) :=
  some ((0 : Int32), M)
noncomputable def b_X6_pactLine_86 (Z : Nat → Nat) (M : gMem) (x0 : Nat) (x1 : Option Nat) : Option (Int32 × gMem) :=
  ck (mT M x0 = 6) <| bd (f_X6_take M x0 ((some (Z 12)))) fun r1 M1 => (if r1 = 0 then ck (mT M1 x0 = 6) <| bd (f_X6_take M1 x0 ((some (Z 13)))) fun r3 M3 => (if r3 = 0 then b_X6_pactLine_119 Z M3  else ck (mT M3 x0 = 6) <| bd (f_X6_takeKnown Z M3 x0 ((mR M3 x0 3))) fun r6 M6 => (if r6 = 0 then b_X6_pactLine_119 Z M6  else ck (mT M6 x0 = 6) <| dr x1 fun a8 => ck (mT M6 a8 = 5) <| lw (wI M6 a8 0 ((mI M6 x0 8))) fun M10 => dr ((mR M10 x0 2)) fun a13 => ck (mT M10 a13 = 7) <| dr ((mR M10 a13 10)) fun a15 => ck (mT M10 a15 = 8) <| lw (wI M10 a8 1 ((mI M10 a15 0))) fun M17 => bd (f_X6_take M17 x0 ((some (Z 14)))) fun r22 M22 => (if r22 = 0 then b_X6_pactLine_161 Z M22  else ck (mT M22 x0 = 6) <| bd (f_X6_sum Z M22 x0 ((0 : Int32))) fun r23 M23 => (if r23 = 0 then b_X6_pactLine_161 Z M23  else ck (mT M23 x0 = 6) <| dr ((mR M23 x0 2)) fun a26 => ck (mT M23 a26 = 7) <| dr ((mR M23 a26 10)) fun a28 => ck (mT M23 a28 = 8) <| ck (mT M23 a8 = 5) <| lw (wI M23 a8 2 ((mI M23 a28 0))) fun M31 => some ((1 : Int32), M31))))) else some ((1 : Int32), M1))
noncomputable def bb_X6_pactLine_53 (Z : Nat → Nat) (M : gMem) (x0 : Nat) (x1 : Option Nat) (x2 : Int32) : Option ((gMem × Int32) ⊕ (Int32 × gMem)) :=
  (if (400 : Int32) ≤ x2 then oI (b_X6_pactLine_86 Z M x0 x1) else ck (mT M x0 = 6) <| bd (f_X6_take M x0 ((some (Z 30)))) fun r37 M37 => (if r37 = 0 then oI (b_X6_pactLine_86 Z M37 x0 x1) else ck (mT M37 x0 = 6) <| bd (f_X6_takeMember Z M37 x0 x1) fun r40 M40 => (if r40 = 0 then oI (some ((0 : Int32), M40)) else some (.inl (M40, (x2 + (1 : Int32)))))))
noncomputable def lp_X6_pactLine_53 (Z : Nat → Nat) (M : gMem) (x0 : Nat) (x1 : Option Nat) (x2 : Int32) : Option (Int32 × gMem) :=
  lp (fun (q : gMem × Int32) => bb_X6_pactLine_53 Z q.1 x0 x1 q.2) (M, x2)
noncomputable def b_X6_pactLine_49 (Z : Nat → Nat) (M : gMem)  : Option (Int32 × gMem) :=
  some ((0 : Int32), M)
noncomputable def b_X6_pactLine_21 (Z : Nat → Nat) (M : gMem)  : Option (Int32 × gMem) :=
  some ((0 : Int32), M)
noncomputable def b_X6_pactLine_0 (Z : Nat → Nat) (M : gMem) (x0 : Nat) : Option (Int32 × gMem) :=
  ck (mT M x0 = 6) <| bd (f_X6_take M x0 ((some (Z 10)))) fun r43 M43 => (if r43 = 0 then b_X6_pactLine_21 Z M43  else ck (mT M43 x0 = 6) <| bd (f_X6_takeNew Z M43 x0 ((mR M43 x0 5))) fun r46 M46 => (if r46 = 0 then b_X6_pactLine_21 Z M46  else ck (mT M46 x0 = 6) <| dr ((mR M46 x0 2)) fun a49 => ck (mT M46 a49 = 7) <| bd (f_X7_nextPact M46 a49) fun r48 M48 => ck (mT M48 x0 = 6) <| bd (f_X6_take M48 x0 ((some (Z 11)))) fun r51 M51 => (if r51 = 0 then b_X6_pactLine_49 Z M51  else ck (mT M51 x0 = 6) <| bd (f_X6_takeMember Z M51 x0 r48) fun r53 M53 => (if r53 = 0 then b_X6_pactLine_49 Z M53  else lp_X6_pactLine_53 Z M53 x0 r48 ((0 : Int32))))))
noncomputable def f_X6_pactLine (Z : Nat → Nat) (M : gMem) (x0 : Nat) : Option (Int32 × gMem) :=
  b_X6_pactLine_0 Z M x0
set_option maxHeartbeats 4000000 in
set_option maxRecDepth 100000 in
theorem t_X6_pactLine_161 (X : gX p s m args meth c D cy B (gSt Z B H0) RX6 cX6_pactLine wsX6_pactLine 3) (hr : meth.sig.returnType = (some .boolean)) {Q : State → Prop} : ∀ (M : gMem)  (z : Int32 × gMem), b_X6_pactLine_161 Z M  = some z → (fun (r : Int32 × gMem) => Q = gMQ below D cy B H0 args s 0 0 (some (vI r.1)) r.2) z → gGo p l e rX6_pactLine s m args below meth c D cy B H0 3 0 0 Q 161 [] [] M := by
  intro M  z hf hK
  unfold b_X6_pactLine_161 at hf
  refine g_iconst (v := (0 : Int32)) X dX6_pactLine_161 (by decide) ?_
  cases hf
  refine g_eqQ hK ?_
  exact g_zret X hr (gnb (Or.inl rfl)) dX6_pactLine_162
set_option maxHeartbeats 4000000 in
set_option maxRecDepth 100000 in
theorem t_X6_pactLine_119 (X : gX p s m args meth c D cy B (gSt Z B H0) RX6 cX6_pactLine wsX6_pactLine 3) (hr : meth.sig.returnType = (some .boolean)) {Q : State → Prop} : ∀ (M : gMem)  (z : Int32 × gMem), b_X6_pactLine_119 Z M  = some z → (fun (r : Int32 × gMem) => Q = gMQ below D cy B H0 args s 0 0 (some (vI r.1)) r.2) z → gGo p l e rX6_pactLine s m args below meth c D cy B H0 3 0 0 Q 119 [] [] M := by
  intro M  z hf hK
  unfold b_X6_pactLine_119 at hf
  refine g_iconst (v := (0 : Int32)) X dX6_pactLine_119 (by decide) ?_
  cases hf
  refine g_eqQ hK ?_
  exact g_zret X hr (gnb (Or.inl rfl)) dX6_pactLine_120
set_option maxHeartbeats 4000000 in
set_option maxRecDepth 100000 in
theorem t_X6_pactLine_86 (X : gX p s m args meth c D cy B (gSt Z B H0) RX6 cX6_pactLine wsX6_pactLine 3) (hr : meth.sig.returnType = (some .boolean)) {Q : State → Prop} : ∀ (M : gMem) (x0 : Nat) (x1 : Option Nat) (z : Int32 × gMem), b_X6_pactLine_86 Z M x0 x1 = some z → (fun (r : Int32 × gMem) => Q = gMQ below D cy B H0 args s 0 0 (some (vI r.1)) r.2) z → gGo p l e rX6_pactLine s m args below meth c D cy B H0 3 0 0 Q 86 [(0, vR (some x0)), (1, vR x1)] [] M := by
  intro M x0 x1 z hf hK
  unfold b_X6_pactLine_86 at hf
  refine g_aload_n X dX6_pactLine_86 rfl rfl ?_
  refine g_gets (w := vR (some (Z 12))) X (gSt_E X 12 (by decide)) k_X6_pactLine_f229 rfl dX6_pactLine_87 ?_
  obtain ⟨hT2, hf⟩ := ck_e hf
  obtain ⟨r1, M1, hq1, hf⟩ := bd_e hf
  refine g_callV (ci := 5) (b := x0) (As := [vR (some (Z 12))]) (st := []) (v := some (vI r1)) (M1 := M1) X (m_X6_take l hq1) (cwV 1 X.2.2.1 gX6_pactLine_X6_take rfl rfl rfl (by decide +kernel) ⟨Nat.le_of_ble_eq_true rfl, Nat.le_of_ble_eq_true rfl⟩) rfl rfl rfl hT2 (by decide) rfl (Nat.le_of_ble_eq_true rfl) dX6_pactLine_90 ⟨by decide, by decide⟩ ?_
  refine g_if_eq (tgt := 98) X dX6_pactLine_93 (by decide) (fun hc => ?_) (fun hc => ?_)
  · have hf := ife_t hc hf
    refine g_aload_n X dX6_pactLine_98 rfl rfl ?_
    refine g_gets (w := vR (some (Z 13))) X (gSt_E X 13 (by decide)) k_X6_pactLine_f232 rfl dX6_pactLine_99 ?_
    obtain ⟨hT4, hf⟩ := ck_e hf
    obtain ⟨r3, M3, hq3, hf⟩ := bd_e hf
    refine g_callV (ci := 5) (b := x0) (As := [vR (some (Z 13))]) (st := []) (v := some (vI r3)) (M1 := M3) X (m_X6_take l hq3) (cwV 1 X.2.2.1 gX6_pactLine_X6_take rfl rfl rfl (by decide +kernel) ⟨Nat.le_of_ble_eq_true rfl, Nat.le_of_ble_eq_true rfl⟩) rfl rfl rfl hT4 (by decide) rfl (Nat.le_of_ble_eq_true rfl) dX6_pactLine_102 ⟨by decide, by decide⟩ ?_
    refine g_if_eq (tgt := 119) X dX6_pactLine_105 (by decide) (fun hc => ?_) (fun hc => ?_)
    · have hf := ife_t hc hf
      refine g_sub (lvsub_of _ _ [] rfl) ?_
      exact t_X6_pactLine_119 X hr _  _ hf hK
    · have hf := ife_f hc hf
      refine g_aload_n X dX6_pactLine_108 rfl rfl ?_
      refine g_aload_n X dX6_pactLine_109 rfl rfl ?_
      obtain ⟨hT5, hf⟩ := ck_e hf
      refine g_get (ci := 5) (v := vR (mR M3 x0 3)) 3 X cdX6 i_X6_pactLine_X6 (by decide) k_X6_pactLine_f20 rfl dX6_pactLine_110 rfl hT5 rfl ?_
      obtain ⟨r6, M6, hq6, hf⟩ := bd_e hf
      refine g_callV (ci := 5) (b := x0) (As := [vR (mR M3 x0 3)]) (st := []) (v := some (vI r6)) (M1 := M6) X (m_X6_takeKnown l hq6) (cwV 1 X.2.2.1 gX6_pactLine_X6_takeKnown rfl rfl rfl (by decide +kernel) ⟨Nat.le_of_ble_eq_true rfl, Nat.le_of_ble_eq_true rfl⟩) rfl rfl rfl hT5 (by decide) rfl (Nat.le_of_ble_eq_true rfl) dX6_pactLine_113 ⟨by decide, by decide⟩ ?_
      refine g_if_ne (tgt := 121) X dX6_pactLine_116 (by decide) (fun hc => ?_) (fun hc => ?_)
      · have hf := ife_f hc hf
        refine g_aload_n X dX6_pactLine_121 rfl rfl ?_
        refine g_aload_n X dX6_pactLine_122 rfl rfl ?_
        obtain ⟨hT7, hf⟩ := ck_e hf
        refine g_get (ci := 5) (v := vI (mI M6 x0 8)) 8 X cdX6 i_X6_pactLine_X6 (by decide) k_X6_pactLine_f112 rfl dX6_pactLine_123 rfl hT7 rfl ?_
        obtain ⟨a8, ha8, hf⟩ := dr_e hf
        obtain ⟨hT9, hf⟩ := ck_e hf
        refine g_putI (ci := 4) 0 X cdX5 i_X6_pactLine_X5 (by decide) k_X6_pactLine_f235 rfl dX6_pactLine_126 ha8 hT9 (Or.inl rfl) rfl rfl rfl ?_
        obtain ⟨M10, hM10, hf⟩ := lw_e hf
        rw [← hM10]
        have hT11 : mT M10 x0 = 6 := by rw [hM10]; exact hT7
        have hT12 : mT M10 a8 = 5 := by rw [hM10]; exact hT9
        refine g_aload_n X dX6_pactLine_129 rfl rfl ?_
        refine g_aload_n X dX6_pactLine_130 rfl rfl ?_
        refine g_get (ci := 5) (v := vR (mR M10 x0 2)) 2 X cdX6 i_X6_pactLine_X6 (by decide) k_X6_pactLine_f34 rfl dX6_pactLine_131 rfl hT11 rfl ?_
        obtain ⟨a13, ha13, hf⟩ := dr_e hf
        obtain ⟨hT14, hf⟩ := ck_e hf
        refine g_get (ci := 6) (v := vR (mR M10 a13 10)) 10 X cdX7 i_X6_pactLine_X7 (by decide) k_X6_pactLine_f193 rfl dX6_pactLine_134 ha13 hT14 rfl ?_
        obtain ⟨a15, ha15, hf⟩ := dr_e hf
        obtain ⟨hT16, hf⟩ := ck_e hf
        refine g_get (ci := 7) (v := vI (mI M10 a15 0)) 0 X cdX9 i_X6_pactLine_X9 (by decide) k_X6_pactLine_f197 rfl dX6_pactLine_137 ha15 hT16 rfl ?_
        refine g_putI (ci := 4) 1 X cdX5 i_X6_pactLine_X5 (by decide) k_X6_pactLine_f238 rfl dX6_pactLine_140 ha8 hT12 (Or.inl rfl) rfl rfl rfl ?_
        obtain ⟨M17, hM17, hf⟩ := lw_e hf
        rw [← hM17]
        have hT18 : mT M17 x0 = 6 := by rw [hM17]; exact hT11
        have hT19 : mT M17 a8 = 5 := by rw [hM17]; exact hT12
        have hT20 : mT M17 a13 = 7 := by rw [hM17]; exact hT14
        have hT21 : mT M17 a15 = 8 := by rw [hM17]; exact hT16
        refine g_aload_n X dX6_pactLine_143 rfl rfl ?_
        refine g_gets (w := vR (some (Z 14))) X (gSt_E X 14 (by decide)) k_X6_pactLine_f241 rfl dX6_pactLine_144 ?_
        obtain ⟨r22, M22, hq22, hf⟩ := bd_e hf
        refine g_callV (ci := 5) (b := x0) (As := [vR (some (Z 14))]) (st := []) (v := some (vI r22)) (M1 := M22) X (m_X6_take l hq22) (cwV 1 X.2.2.1 gX6_pactLine_X6_take rfl rfl rfl (by decide +kernel) ⟨Nat.le_of_ble_eq_true rfl, Nat.le_of_ble_eq_true rfl⟩) rfl rfl rfl hT18 (by decide) rfl (Nat.le_of_ble_eq_true rfl) dX6_pactLine_147 ⟨by decide, by decide⟩ ?_
        refine g_if_eq (tgt := 161) X dX6_pactLine_150 (by decide) (fun hc => ?_) (fun hc => ?_)
        · have hf := ife_t hc hf
          refine g_sub (lvsub_of _ _ [] rfl) ?_
          exact t_X6_pactLine_161 X hr _  _ hf hK
        · have hf := ife_f hc hf
          refine g_aload_n X dX6_pactLine_153 rfl rfl ?_
          refine g_iconst (v := (0 : Int32)) X dX6_pactLine_154 (by decide) ?_
          obtain ⟨hT24, hf⟩ := ck_e hf
          obtain ⟨r23, M23, hq23, hf⟩ := bd_e hf
          refine g_callV (ci := 5) (b := x0) (As := [vI (0 : Int32)]) (st := []) (v := some (vI r23)) (M1 := M23) X (m_X6_sum l hq23) (cwV 1 X.2.2.1 gX6_pactLine_X6_sum rfl rfl rfl (by decide +kernel) ⟨Nat.le_of_ble_eq_true rfl, Nat.le_of_ble_eq_true rfl⟩) rfl rfl rfl hT24 (by decide) rfl (Nat.le_of_ble_eq_true rfl) dX6_pactLine_155 ⟨by decide, by decide⟩ ?_
          refine g_if_ne (tgt := 163) X dX6_pactLine_158 (by decide) (fun hc => ?_) (fun hc => ?_)
          · have hf := ife_f hc hf
            refine g_aload_n X dX6_pactLine_163 rfl rfl ?_
            refine g_aload_n X dX6_pactLine_164 rfl rfl ?_
            obtain ⟨hT25, hf⟩ := ck_e hf
            refine g_get (ci := 5) (v := vR (mR M23 x0 2)) 2 X cdX6 i_X6_pactLine_X6 (by decide) k_X6_pactLine_f34 rfl dX6_pactLine_165 rfl hT25 rfl ?_
            obtain ⟨a26, ha26, hf⟩ := dr_e hf
            obtain ⟨hT27, hf⟩ := ck_e hf
            refine g_get (ci := 6) (v := vR (mR M23 a26 10)) 10 X cdX7 i_X6_pactLine_X7 (by decide) k_X6_pactLine_f193 rfl dX6_pactLine_168 ha26 hT27 rfl ?_
            obtain ⟨a28, ha28, hf⟩ := dr_e hf
            obtain ⟨hT29, hf⟩ := ck_e hf
            refine g_get (ci := 7) (v := vI (mI M23 a28 0)) 0 X cdX9 i_X6_pactLine_X9 (by decide) k_X6_pactLine_f197 rfl dX6_pactLine_171 ha28 hT29 rfl ?_
            obtain ⟨hT30, hf⟩ := ck_e hf
            refine g_putI (ci := 4) 2 X cdX5 i_X6_pactLine_X5 (by decide) k_X6_pactLine_f247 rfl dX6_pactLine_174 ha8 hT30 (Or.inl rfl) rfl rfl rfl ?_
            obtain ⟨M31, hM31, hf⟩ := lw_e hf
            rw [← hM31]
            have hT32 : mT M31 x0 = 6 := by rw [hM31]; exact hT25
            have hT33 : mT M31 a26 = 7 := by rw [hM31]; exact hT27
            have hT34 : mT M31 a28 = 8 := by rw [hM31]; exact hT29
            have hT35 : mT M31 a8 = 5 := by rw [hM31]; exact hT30
            refine g_iconst (v := (1 : Int32)) X dX6_pactLine_177 (by decide) ?_
            cases hf
            refine g_eqQ hK ?_
            exact g_zret X hr (gnb (Or.inr rfl)) dX6_pactLine_178
          · have hf := ife_t hc hf
            refine g_sub (lvsub_of _ _ [] rfl) ?_
            exact t_X6_pactLine_161 X hr _  _ hf hK
      · have hf := ife_t hc hf
        refine g_sub (lvsub_of _ _ [] rfl) ?_
        exact t_X6_pactLine_119 X hr _  _ hf hK
  · have hf := ife_f hc hf
    refine g_iconst (v := (1 : Int32)) X dX6_pactLine_96 (by decide) ?_
    cases hf
    refine g_eqQ hK ?_
    exact g_zret X hr (gnb (Or.inr rfl)) dX6_pactLine_97
set_option maxHeartbeats 4000000 in
set_option maxRecDepth 100000 in
theorem tb_X6_pactLine_53 (X : gX p s m args meth c D cy B (gSt Z B H0) RX6 cX6_pactLine wsX6_pactLine 3) (hr : meth.sig.returnType = (some .boolean)) {Q : State → Prop} : ∀ (M : gMem) (x0 : Nat) (x1 : Option Nat) (x2 : Int32) (z : (gMem × Int32) ⊕ (Int32 × gMem)), bb_X6_pactLine_53 Z M x0 x1 x2 = some z → (Sum.elim (fun (q : gMem × Int32) => gGo p l e rX6_pactLine s m args below meth c D cy B H0 3 0 0 Q 53 [(0, vR (some x0)), (1, vR x1), (2, vI q.2)] [] q.1) (fun (r : Int32 × gMem) => Q = gMQ below D cy B H0 args s 0 0 (some (vI r.1)) r.2)) z → gGo p l e rX6_pactLine s m args below meth c D cy B H0 3 0 0 Q 53 [(0, vR (some x0)), (1, vR x1), (2, vI x2)] [] M := by
  intro M x0 x1 x2 z hf hK
  unfold bb_X6_pactLine_53 at hf
  refine g_iload_n X dX6_pactLine_53 rfl rfl ?_
  refine g_sipush (v := (400 : Int32)) X dX6_pactLine_54 (by decide) ?_
  refine g_icmp_ge (tgt := 86) X dX6_pactLine_57 (by decide) (fun hc => ?_) (fun hc => ?_)
  · have hf := ife_t hc hf
    obtain ⟨w36, hw36, hz36⟩ := oI_e hf
    subst hz36
    have hf := hw36
    refine g_sub (lvsub_of _ _ [0, 1] rfl) ?_
    exact t_X6_pactLine_86 X hr _ _ _ _ hf hK
  · have hf := ife_f hc hf
    refine g_aload_n X dX6_pactLine_60 rfl rfl ?_
    refine g_gets (w := vR (some (Z 30))) X (gSt_E X 30 (by decide)) k_X6_pactLine_f127 rfl dX6_pactLine_61 ?_
    obtain ⟨hT38, hf⟩ := ck_e hf
    obtain ⟨r37, M37, hq37, hf⟩ := bd_e hf
    refine g_callV (ci := 5) (b := x0) (As := [vR (some (Z 30))]) (st := []) (v := some (vI r37)) (M1 := M37) X (m_X6_take l hq37) (cwV 1 X.2.2.1 gX6_pactLine_X6_take rfl rfl rfl (by decide +kernel) ⟨Nat.le_of_ble_eq_true rfl, Nat.le_of_ble_eq_true rfl⟩) rfl rfl rfl hT38 (by decide) rfl (Nat.le_of_ble_eq_true rfl) dX6_pactLine_64 ⟨by decide, by decide⟩ ?_
    refine g_if_eq (tgt := 86) X dX6_pactLine_67 (by decide) (fun hc => ?_) (fun hc => ?_)
    · have hf := ife_t hc hf
      obtain ⟨w39, hw39, hz39⟩ := oI_e hf
      subst hz39
      have hf := hw39
      refine g_sub (lvsub_of _ _ [0, 1] rfl) ?_
      exact t_X6_pactLine_86 X hr _ _ _ _ hf hK
    · have hf := ife_f hc hf
      refine g_aload_n X dX6_pactLine_70 rfl rfl ?_
      refine g_aload_n X dX6_pactLine_71 rfl rfl ?_
      obtain ⟨hT41, hf⟩ := ck_e hf
      obtain ⟨r40, M40, hq40, hf⟩ := bd_e hf
      refine g_callV (ci := 5) (b := x0) (As := [vR x1]) (st := []) (v := some (vI r40)) (M1 := M40) X (m_X6_takeMember l hq40) (cwV 1 X.2.2.1 gX6_pactLine_X6_takeMember rfl rfl rfl (by decide +kernel) ⟨Nat.le_of_ble_eq_true rfl, Nat.le_of_ble_eq_true rfl⟩) rfl rfl rfl hT41 (by decide) rfl (Nat.le_of_ble_eq_true rfl) dX6_pactLine_72 ⟨by decide, by decide⟩ ?_
      refine g_if_ne (tgt := 80) X dX6_pactLine_75 (by decide) (fun hc => ?_) (fun hc => ?_)
      · have hf := ife_f hc hf
        refine g_iinc (v := (1 : Int32)) (lv' := [(2, vI (x2 + (1 : Int32))), (0, vR (some x0)), (1, vR x1)]) X dX6_pactLine_80 rfl (by decide) (by decide) rfl ?_
        refine g_goto (tgt := 53) X dX6_pactLine_83 (by decide) ?_
        cases hf
        refine g_sub (lvsub_of _ _ [1, 2, 0] rfl) ?_
        exact hK
      · have hf := ife_t hc hf
        refine g_iconst (v := (0 : Int32)) X dX6_pactLine_78 (by decide) ?_
        obtain ⟨w42, hw42, hz42⟩ := oI_e hf
        subst hz42
        have hf := hw42
        cases hf
        refine g_eqQ hK ?_
        exact g_zret X hr (gnb (Or.inl rfl)) dX6_pactLine_79
set_option maxHeartbeats 4000000 in
set_option maxRecDepth 100000 in
theorem tl_X6_pactLine_53 (X : gX p s m args meth c D cy B (gSt Z B H0) RX6 cX6_pactLine wsX6_pactLine 3) (hr : meth.sig.returnType = (some .boolean)) {Q : State → Prop} : ∀ (M : gMem) (x0 : Nat) (x1 : Option Nat) (x2 : Int32) (z : Int32 × gMem), lp_X6_pactLine_53 Z M x0 x1 x2 = some z → (fun (r : Int32 × gMem) => Q = gMQ below D cy B H0 args s 0 0 (some (vI r.1)) r.2) z → gGo p l e rX6_pactLine s m args below meth c D cy B H0 3 0 0 Q 53 [(0, vR (some x0)), (1, vR x1), (2, vI x2)] [] M := by
  intro M x0 x1 x2 z hf hK
  refine lp_ind (P := (fun (q : gMem × Int32) (z : Int32 × gMem) => (fun (r : Int32 × gMem) => Q = gMQ below D cy B H0 args s 0 0 (some (vI r.1)) r.2) z → gGo p l e rX6_pactLine s m args below meth c D cy B H0 3 0 0 Q 53 [(0, vR (some x0)), (1, vR x1), (2, vI q.2)] [] q.1)) (fun q z hq => ?_) _ _ hf hK
  intro hK
  obtain ⟨w, hw, hm⟩ := hq
  refine tb_X6_pactLine_53 X hr _ _ _ _ w hw ?_
  cases w with
  | inl a => exact hm hK
  | inr b => cases hm; exact hK
set_option maxHeartbeats 4000000 in
set_option maxRecDepth 100000 in
theorem t_X6_pactLine_49 (X : gX p s m args meth c D cy B (gSt Z B H0) RX6 cX6_pactLine wsX6_pactLine 3) (hr : meth.sig.returnType = (some .boolean)) {Q : State → Prop} : ∀ (M : gMem)  (z : Int32 × gMem), b_X6_pactLine_49 Z M  = some z → (fun (r : Int32 × gMem) => Q = gMQ below D cy B H0 args s 0 0 (some (vI r.1)) r.2) z → gGo p l e rX6_pactLine s m args below meth c D cy B H0 3 0 0 Q 49 [] [] M := by
  intro M  z hf hK
  unfold b_X6_pactLine_49 at hf
  refine g_iconst (v := (0 : Int32)) X dX6_pactLine_49 (by decide) ?_
  cases hf
  refine g_eqQ hK ?_
  exact g_zret X hr (gnb (Or.inl rfl)) dX6_pactLine_50
set_option maxHeartbeats 4000000 in
set_option maxRecDepth 100000 in
theorem t_X6_pactLine_21 (X : gX p s m args meth c D cy B (gSt Z B H0) RX6 cX6_pactLine wsX6_pactLine 3) (hr : meth.sig.returnType = (some .boolean)) {Q : State → Prop} : ∀ (M : gMem)  (z : Int32 × gMem), b_X6_pactLine_21 Z M  = some z → (fun (r : Int32 × gMem) => Q = gMQ below D cy B H0 args s 0 0 (some (vI r.1)) r.2) z → gGo p l e rX6_pactLine s m args below meth c D cy B H0 3 0 0 Q 21 [] [] M := by
  intro M  z hf hK
  unfold b_X6_pactLine_21 at hf
  refine g_iconst (v := (0 : Int32)) X dX6_pactLine_21 (by decide) ?_
  cases hf
  refine g_eqQ hK ?_
  exact g_zret X hr (gnb (Or.inl rfl)) dX6_pactLine_22
set_option maxHeartbeats 4000000 in
set_option maxRecDepth 100000 in
theorem t_X6_pactLine_0 (X : gX p s m args meth c D cy B (gSt Z B H0) RX6 cX6_pactLine wsX6_pactLine 3) (hr : meth.sig.returnType = (some .boolean)) {Q : State → Prop} : ∀ (M : gMem) (x0 : Nat) (z : Int32 × gMem), b_X6_pactLine_0 Z M x0 = some z → (fun (r : Int32 × gMem) => Q = gMQ below D cy B H0 args s 0 0 (some (vI r.1)) r.2) z → gGo p l e rX6_pactLine s m args below meth c D cy B H0 3 0 0 Q 0 [(0, vR (some x0))] [] M := by
  intro M x0 z hf hK
  unfold b_X6_pactLine_0 at hf
  refine g_aload_n X dX6_pactLine_0 rfl rfl ?_
  refine g_gets (w := vR (some (Z 10))) X (gSt_E X 10 (by decide)) k_X6_pactLine_f215 rfl dX6_pactLine_1 ?_
  obtain ⟨hT44, hf⟩ := ck_e hf
  obtain ⟨r43, M43, hq43, hf⟩ := bd_e hf
  refine g_callV (ci := 5) (b := x0) (As := [vR (some (Z 10))]) (st := []) (v := some (vI r43)) (M1 := M43) X (m_X6_take l hq43) (cwV 1 X.2.2.1 gX6_pactLine_X6_take rfl rfl rfl (by decide +kernel) ⟨Nat.le_of_ble_eq_true rfl, Nat.le_of_ble_eq_true rfl⟩) rfl rfl rfl hT44 (by decide) rfl (Nat.le_of_ble_eq_true rfl) dX6_pactLine_4 ⟨by decide, by decide⟩ ?_
  refine g_if_eq (tgt := 21) X dX6_pactLine_7 (by decide) (fun hc => ?_) (fun hc => ?_)
  · have hf := ife_t hc hf
    refine g_sub (lvsub_of _ _ [] rfl) ?_
    exact t_X6_pactLine_21 X hr _  _ hf hK
  · have hf := ife_f hc hf
    refine g_aload_n X dX6_pactLine_10 rfl rfl ?_
    refine g_aload_n X dX6_pactLine_11 rfl rfl ?_
    obtain ⟨hT45, hf⟩ := ck_e hf
    refine g_get (ci := 5) (v := vR (mR M43 x0 5)) 5 X cdX6 i_X6_pactLine_X6 (by decide) k_X6_pactLine_f27 rfl dX6_pactLine_12 rfl hT45 rfl ?_
    obtain ⟨r46, M46, hq46, hf⟩ := bd_e hf
    refine g_callV (ci := 5) (b := x0) (As := [vR (mR M43 x0 5)]) (st := []) (v := some (vI r46)) (M1 := M46) X (m_X6_takeNew l hq46) (cwV 1 X.2.2.1 gX6_pactLine_X6_takeNew rfl rfl rfl (by decide +kernel) ⟨Nat.le_of_ble_eq_true rfl, Nat.le_of_ble_eq_true rfl⟩) rfl rfl rfl hT45 (by decide) rfl (Nat.le_of_ble_eq_true rfl) dX6_pactLine_15 ⟨by decide, by decide⟩ ?_
    refine g_if_ne (tgt := 23) X dX6_pactLine_18 (by decide) (fun hc => ?_) (fun hc => ?_)
    · have hf := ife_f hc hf
      refine g_aload_n X dX6_pactLine_23 rfl rfl ?_
      obtain ⟨hT47, hf⟩ := ck_e hf
      refine g_get (ci := 5) (v := vR (mR M46 x0 2)) 2 X cdX6 i_X6_pactLine_X6 (by decide) k_X6_pactLine_f34 rfl dX6_pactLine_24 rfl hT47 rfl ?_
      obtain ⟨a49, ha49, hf⟩ := dr_e hf
      obtain ⟨hT50, hf⟩ := ck_e hf
      obtain ⟨r48, M48, hq48, hf⟩ := bd_e hf
      refine g_callV (ci := 6) (b := a49) (As := []) (st := []) (v := some (vR r48)) (M1 := M48) X (m_X7_nextPact l hq48) (cwV 0 X.2.2.1 gX6_pactLine_X7_nextPact rfl rfl rfl (by decide +kernel) ⟨Nat.le_of_ble_eq_true rfl, Nat.le_of_ble_eq_true rfl⟩) rfl rfl ha49 hT50 (by decide) rfl (Nat.le_of_ble_eq_true rfl) dX6_pactLine_27 ⟨by decide, by decide⟩ ?_
      refine g_astore_n (lv' := [(1, vR r48), (0, vR (some x0))]) X dX6_pactLine_30 rfl (by decide) rfl ?_
      refine g_aload_n X dX6_pactLine_31 rfl rfl ?_
      refine g_gets (w := vR (some (Z 11))) X (gSt_E X 11 (by decide)) k_X6_pactLine_f222 rfl dX6_pactLine_32 ?_
      obtain ⟨hT52, hf⟩ := ck_e hf
      obtain ⟨r51, M51, hq51, hf⟩ := bd_e hf
      refine g_callV (ci := 5) (b := x0) (As := [vR (some (Z 11))]) (st := []) (v := some (vI r51)) (M1 := M51) X (m_X6_take l hq51) (cwV 1 X.2.2.1 gX6_pactLine_X6_take rfl rfl rfl (by decide +kernel) ⟨Nat.le_of_ble_eq_true rfl, Nat.le_of_ble_eq_true rfl⟩) rfl rfl rfl hT52 (by decide) rfl (Nat.le_of_ble_eq_true rfl) dX6_pactLine_35 ⟨by decide, by decide⟩ ?_
      refine g_if_eq (tgt := 49) X dX6_pactLine_38 (by decide) (fun hc => ?_) (fun hc => ?_)
      · have hf := ife_t hc hf
        refine g_sub (lvsub_of _ _ [] rfl) ?_
        exact t_X6_pactLine_49 X hr _  _ hf hK
      · have hf := ife_f hc hf
        refine g_aload_n X dX6_pactLine_41 rfl rfl ?_
        refine g_aload_n X dX6_pactLine_42 rfl rfl ?_
        obtain ⟨hT54, hf⟩ := ck_e hf
        obtain ⟨r53, M53, hq53, hf⟩ := bd_e hf
        refine g_callV (ci := 5) (b := x0) (As := [vR r48]) (st := []) (v := some (vI r53)) (M1 := M53) X (m_X6_takeMember l hq53) (cwV 1 X.2.2.1 gX6_pactLine_X6_takeMember rfl rfl rfl (by decide +kernel) ⟨Nat.le_of_ble_eq_true rfl, Nat.le_of_ble_eq_true rfl⟩) rfl rfl rfl hT54 (by decide) rfl (Nat.le_of_ble_eq_true rfl) dX6_pactLine_43 ⟨by decide, by decide⟩ ?_
        refine g_if_ne (tgt := 51) X dX6_pactLine_46 (by decide) (fun hc => ?_) (fun hc => ?_)
        · have hf := ife_f hc hf
          refine g_iconst (v := (0 : Int32)) X dX6_pactLine_51 (by decide) ?_
          refine g_istore_n (lv' := [(2, vI (0 : Int32)), (1, vR r48), (0, vR (some x0))]) X dX6_pactLine_52 rfl (by decide) rfl ?_
          refine g_sub (lvsub_of _ _ [2, 1, 0] rfl) ?_
          exact tl_X6_pactLine_53 X hr _ _ _ _ _ hf hK
        · have hf := ife_t hc hf
          refine g_sub (lvsub_of _ _ [] rfl) ?_
          exact t_X6_pactLine_49 X hr _  _ hf hK
    · have hf := ife_t hc hf
      refine g_sub (lvsub_of _ _ [] rfl) ?_
      exact t_X6_pactLine_21 X hr _  _ hf hK
set_option maxHeartbeats 4000000 in
set_option maxRecDepth 100000 in
theorem m_X6_pactLine (l : Launch) {D : va_G} {cy : Nat → ClassId} {B : Nat} {H0 : Heap} {Z : Nat → Nat} {M M1 : gMem} {x0 : Nat} {r : Int32} (hf : f_X6_pactLine Z M x0 = some (r, M1)) : Met l yX6_pactLine wsX6_pactLine rX6_pactLine (va_Pc (Value.ref x0 :: List.map gv []) (gPre D cy B H0 (gSt Z B H0) M)) (gQ D cy B H0 (some (vI r)) M1) 0 0 (gA B) := by
  refine Met.ofW (cc := cX6_pactLine) (maxL := 3) (ret := (some .boolean)) (by decide) rfl ?_
  intro p e s m args below meth c s₁ Bd hml hv
  obtain ⟨rfl, hW, hKK, hFs⟩ := hv
  have X : gX p s m _ meth c D cy B (gSt Z B H0) RX6 cX6_pactLine wsX6_pactLine 3 := ⟨Bd.exec, Bd.bytes, atoms_spec (ws := wsX6_pactLine) Bd.pre, findClass_of_methodNamed Bd.named, hml, hKK, by rw [hW.1]; exact hW.2.1, Bd.notSynchronized, hFs⟩
  have hr := Bd.returns
  have hl := lv_entry ([.ref x0]) (n := 3) (Nat.le_of_ble_eq_true rfl)
  show W p l e rX6_pactLine s m _ below meth c s.heap [] 0 0 _ (entryFrame m ([.ref x0] : List Value).toArray 3)
  rw [lg_entry_eq]
  generalize (lg_sl ([.ref x0]) ++ List.replicate (3 - (lg_sl ([.ref x0])).length) Slot.unset).toArray = ls at hl ⊢
  have hl : lv_has ls 3 (List.map gq [(0, vR (some x0))]) := hl
  exact t_X6_pactLine_0 X hr _ _ _ hf rfl s.heap [] ls hW va_S.rf (lv_has_sub hl (lvsub_of _ _ [0] rfl))
end
