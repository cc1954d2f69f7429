section
variable {p : Program} {l : Launch} {e : Env} {s : State} {m : MethodId} {args : Array Value} {below : List Frame} {meth : Method} {c : Code} {D : va_G} {cy : Nat → ClassId} {B : Nat} {H0 : Heap} {Z : Nat → Nat}
/-! ## TideLotsModel.foresee(II)I -/
theorem dX14_foresee_0 : decode cX14_foresee 0 = .ok (.aload_n 0, 1) := by decide +kernel
theorem dX14_foresee_1 : decode cX14_foresee 1 = .ok (.iconst 0, 1) := by decide +kernel
theorem dX14_foresee_2 : decode cX14_foresee 2 = .ok (.putfield 57, 3) := by decide +kernel
theorem dX14_foresee_5 : decode cX14_foresee 5 = .ok (.iload_n 1, 1) := by decide +kernel
theorem dX14_foresee_6 : decode cX14_foresee 6 = .ok (.iconst 1, 1) := by decide +kernel
theorem dX14_foresee_7 : decode cX14_foresee 7 = .ok (.bipush 60, 2) := by decide +kernel
theorem dX14_foresee_9 : decode cX14_foresee 9 = .ok (.invokestatic 63, 3) := by decide +kernel
theorem dX14_foresee_12 : decode cX14_foresee 12 = .ok (.ifCond .ne 9, 3) := by decide +kernel
theorem dX14_foresee_15 : decode cX14_foresee 15 = .ok (.aload_n 0, 1) := by decide +kernel
theorem dX14_foresee_16 : decode cX14_foresee 16 = .ok (.iconst 1, 1) := by decide +kernel
theorem dX14_foresee_17 : decode cX14_foresee 17 = .ok (.invokevirtual 276, 3) := by decide +kernel
theorem dX14_foresee_20 : decode cX14_foresee 20 = .ok (.ireturn, 1) := by decide +kernel
theorem dX14_foresee_21 : decode cX14_foresee 21 = .ok (.iload_n 2, 1) := by decide +kernel
theorem dX14_foresee_22 : decode cX14_foresee 22 = .ok (.iconst 0, 1) := by decide +kernel
theorem dX14_foresee_23 : decode cX14_foresee 23 = .ok (.iconst 2, 1) := by decide +kernel
theorem dX14_foresee_24 : decode cX14_foresee 24 = .ok (.invokestatic 63, 3) := by decide +kernel
theorem dX14_foresee_27 : decode cX14_foresee 27 = .ok (.ifCond .ne 9, 3) := by decide +kernel
theorem dX14_foresee_30 : decode cX14_foresee 30 = .ok (.aload_n 0, 1) := by decide +kernel
theorem dX14_foresee_31 : decode cX14_foresee 31 = .ok (.iconst 2, 1) := by decide +kernel
theorem dX14_foresee_32 : decode cX14_foresee 32 = .ok (.invokevirtual 276, 3) := by decide +kernel
theorem dX14_foresee_35 : decode cX14_foresee 35 = .ok (.ireturn, 1) := by decide +kernel
theorem dX14_foresee_36 : decode cX14_foresee 36 = .ok (.aload_n 0, 1) := by decide +kernel
theorem dX14_foresee_37 : decode cX14_foresee 37 = .ok (.getfield 51, 3) := by decide +kernel
theorem dX14_foresee_40 : decode cX14_foresee 40 = .ok (.aload_n 0, 1) := by decide +kernel
theorem dX14_foresee_41 : decode cX14_foresee 41 = .ok (.getfield 47, 3) := by decide +kernel
theorem dX14_foresee_44 : decode cX14_foresee 44 = .ok (.invokevirtual 365, 3) := by decide +kernel
theorem dX14_foresee_47 : decode cX14_foresee 47 = .ok (.iconst 0, 1) := by decide +kernel
theorem dX14_foresee_48 : decode cX14_foresee 48 = .ok (.istore_n 3, 1) := by decide +kernel
theorem dX14_foresee_49 : decode cX14_foresee 49 = .ok (.iload_n 3, 1) := by decide +kernel
theorem dX14_foresee_50 : decode cX14_foresee 50 = .ok (.iload_n 1, 1) := by decide +kernel
theorem dX14_foresee_51 : decode cX14_foresee 51 = .ok (.if_icmp .ge 16, 3) := by decide +kernel
theorem dX14_foresee_54 : decode cX14_foresee 54 = .ok (.aload_n 0, 1) := by decide +kernel
theorem dX14_foresee_55 : decode cX14_foresee 55 = .ok (.getfield 51, 3) := by decide +kernel
theorem dX14_foresee_58 : decode cX14_foresee 58 = .ok (.invokevirtual 362, 3) := by decide +kernel
theorem dX14_foresee_61 : decode cX14_foresee 61 = .ok (.iinc 3 1, 3) := by decide +kernel
theorem dX14_foresee_64 : decode cX14_foresee 64 = .ok (.goto (-15), 3) := by decide +kernel
theorem dX14_foresee_67 : decode cX14_foresee 67 = .ok (.iload_n 2, 1) := by decide +kernel
theorem dX14_foresee_68 : decode cX14_foresee 68 = .ok (.ifCond .ne 20, 3) := by decide +kernel
theorem dX14_foresee_71 : decode cX14_foresee 71 = .ok (.aload_n 0, 1) := by decide +kernel
theorem dX14_foresee_72 : decode cX14_foresee 72 = .ok (.getfield 51, 3) := by decide +kernel
theorem dX14_foresee_75 : decode cX14_foresee 75 = .ok (.aload_n 0, 1) := by decide +kernel
theorem dX14_foresee_76 : decode cX14_foresee 76 = .ok (.getfield 51, 3) := by decide +kernel
theorem dX14_foresee_79 : decode cX14_foresee 79 = .ok (.getfield 290, 3) := by decide +kernel
theorem dX14_foresee_82 : decode cX14_foresee 82 = .ok (.invokevirtual 287, 3) := by decide +kernel
theorem dX14_foresee_85 : decode cX14_foresee 85 = .ok (.goto 32, 3) := by decide +kernel
theorem dX14_foresee_88 : decode cX14_foresee 88 = .ok (.iload_n 2, 1) := by decide +kernel
theorem dX14_foresee_89 : decode cX14_foresee 89 = .ok (.iconst 1, 1) := by decide +kernel
theorem dX14_foresee_90 : decode cX14_foresee 90 = .ok (.if_icmp .ne 20, 3) := by decide +kernel
theorem dX14_foresee_93 : decode cX14_foresee 93 = .ok (.aload_n 0, 1) := by decide +kernel
theorem dX14_foresee_94 : decode cX14_foresee 94 = .ok (.getfield 51, 3) := by decide +kernel
theorem dX14_foresee_97 : decode cX14_foresee 97 = .ok (.aload_n 0, 1) := by decide +kernel
theorem dX14_foresee_98 : decode cX14_foresee 98 = .ok (.getfield 51, 3) := by decide +kernel
theorem dX14_foresee_101 : decode cX14_foresee 101 = .ok (.getfield 286, 3) := by decide +kernel
theorem dX14_foresee_104 : decode cX14_foresee 104 = .ok (.invokevirtual 287, 3) := by decide +kernel
theorem dX14_foresee_107 : decode cX14_foresee 107 = .ok (.goto 10, 3) := by decide +kernel
theorem dX14_foresee_110 : decode cX14_foresee 110 = .ok (.aload_n 0, 1) := by decide +kernel
theorem dX14_foresee_111 : decode cX14_foresee 111 = .ok (.getfield 51, 3) := by decide +kernel
theorem dX14_foresee_114 : decode cX14_foresee 114 = .ok (.invokevirtual 359, 3) := by decide +kernel
theorem dX14_foresee_117 : decode cX14_foresee 117 = .ok (.ireturn, 1) := by decide +kernel
set_option maxRecDepth 20000 in
theorem ggX14_foresee_X12_gap : GoodIn wsX14_foresee wsX12_gap := goodIn_2 24 (goodIn_rr wsB_X14_foresee_in _ [(5, 11), (5, 12), (2, 18), (1, 22), (4, 19), (4, 4), (4, 5), (4, 6), (5, 13), (4, 8), (4, 9), (7, 0), (7, 1), (7, 2), (7, 3), (7, 4), (7, 5), (7, 6), (7, 7), (7, 8), (7, 9), (7, 10), (7, 11), (7, 12)] (by decide +kernel) (by decide +kernel)) (goodIn_2 24 (goodIn_rr wsB_X14_foresee_in _ [(7, 13), (7, 14), (7, 15), (7, 16), (7, 17), (7, 18), (6, 0), (6, 1), (6, 2), (6, 3), (6, 4), (6, 5), (6, 6), (6, 7), (6, 8), (6, 9), (6, 10), (6, 11), (6, 12), (6, 13), (6, 14), (8, 0), (8, 1), (8, 2)] (by decide +kernel) (by decide +kernel)) (goodIn_rr wsB_X14_foresee_in _ [(8, 3), (8, 4), (8, 5), (8, 6), (8, 7), (8, 8), (8, 9), (8, 10), (8, 11), (8, 12), (8, 13), (8, 14), (8, 15), (8, 16), (8, 17), (8, 18), (8, 19), (8, 20), (8, 21), (8, 22), (8, 23), (8, 24)] (by decide +kernel) (by decide +kernel)))
set_option maxRecDepth 20000 in
theorem gX14_foresee_X12_gap : GoodIn wsX14_foresee (wsV RX14 359 RX12 yX12_gap wsX12_gap) := goodIn_app (goodIn_rr wsB_X14_foresee_in _ [(5, 8), (5, 9), (5, 10), (1, 14)] (by decide +kernel) (by decide +kernel)) ggX14_foresee_X12_gap
set_option maxRecDepth 20000 in
theorem ggX14_foresee_X12_sum : GoodIn wsX14_foresee wsX12_sum := goodIn_rr wsB_X14_foresee_in _ [(5, 7)] (by decide +kernel) (by decide +kernel)
set_option maxRecDepth 20000 in
theorem gX14_foresee_X12_sum : GoodIn wsX14_foresee (wsV RX14 287 RX12 yX12_sum wsX12_sum) := goodIn_app (goodIn_rr wsB_X14_foresee_in _ [(5, 4), (5, 5), (5, 6), (1, 14)] (by decide +kernel) (by decide +kernel)) ggX14_foresee_X12_sum
set_option maxRecDepth 20000 in
theorem ggX14_foresee_X12_pass : GoodIn wsX14_foresee wsX12_pass := goodIn_2 24 (goodIn_rr wsB_X14_foresee_in _ [(2, 17), (1, 19), (2, 18), (2, 19), (1, 22), (1, 23), (1, 16), (2, 20), (2, 21), (2, 22), (1, 14), (2, 23), (3, 0), (1, 17), (3, 1), (2, 10), (2, 11), (2, 12), (2, 13), (3, 2), (3, 3), (3, 4), (3, 5), (2, 0)] (by decide +kernel) (by decide +kernel)) (goodIn_2 24 (goodIn_rr wsB_X14_foresee_in _ [(3, 6), (3, 7), (3, 8), (3, 9), (2, 2), (3, 10), (3, 11), (3, 12), (3, 13), (3, 14), (3, 15), (1, 5), (3, 16), (1, 3), (1, 4), (1, 6), (3, 17), (3, 18), (3, 19), (3, 20), (1, 21), (3, 21), (3, 22), (3, 23)] (by decide +kernel) (by decide +kernel)) (goodIn_2 24 (goodIn_rr wsB_X14_foresee_in _ [(4, 0), (1, 18), (4, 1), (4, 2), (4, 3), (4, 4), (4, 5), (4, 6), (4, 7), (4, 8), (4, 9), (4, 10), (4, 11), (4, 12), (4, 13), (4, 14), (4, 15), (4, 16), (4, 17), (4, 18), (4, 19), (2, 1), (1, 20), (4, 20)] (by decide +kernel) (by decide +kernel)) (goodIn_2 24 (goodIn_rr wsB_X14_foresee_in _ [(4, 21), (4, 22), (4, 23), (2, 3), (2, 4), (2, 5), (5, 0), (5, 1), (5, 2), (5, 3), (7, 0), (7, 1), (7, 2), (7, 3), (7, 4), (7, 5), (7, 6), (7, 7), (7, 8), (7, 9), (7, 10), (7, 11), (7, 12), (7, 13)] (by decide +kernel) (by decide +kernel)) (goodIn_2 24 (goodIn_rr wsB_X14_foresee_in _ [(7, 14), (7, 15), (7, 16), (7, 17), (7, 18), (6, 0), (6, 1), (6, 2), (6, 3), (6, 4), (6, 5), (6, 6), (6, 7), (6, 8), (6, 9), (6, 10), (6, 11), (6, 12), (6, 13), (6, 14), (8, 0), (8, 1), (8, 2), (8, 3)] (by decide +kernel) (by decide +kernel)) (goodIn_rr wsB_X14_foresee_in _ [(8, 4), (8, 5), (8, 6), (8, 7), (8, 8), (8, 9), (8, 10), (8, 11), (8, 12), (8, 13), (8, 14), (8, 15), (8, 16), (8, 17), (8, 18), (8, 19), (8, 20), (8, 21), (8, 22), (8, 23), (8, 24)] (by decide +kernel) (by decide +kernel))))))
set_option maxRecDepth 20000 in
theorem gX14_foresee_X12_pass : GoodIn wsX14_foresee (wsV RX14 362 RX12 yX12_pass wsX12_pass) := goodIn_app (goodIn_rr wsB_X14_foresee_in _ [(2, 14), (2, 15), (2, 16), (1, 14)] (by decide +kernel) (by decide +kernel)) ggX14_foresee_X12_pass
set_option maxRecDepth 20000 in
theorem ggX14_foresee_X14_isIn : GoodIn wsX14_foresee wsX14_isIn := goodIn_rr wsB_X14_foresee_in _ [(1, 6)] (by decide +kernel) (by decide +kernel)
set_option maxRecDepth 20000 in
theorem gX14_foresee_X14_isIn : GoodIn wsX14_foresee (va_wsS RX14 63 yX14_isIn wsX14_isIn) := goodIn_app (goodIn_rr wsB_X14_foresee_in _ [(1, 3), (1, 4), (1, 5)] (by decide +kernel) (by decide +kernel)) ggX14_foresee_X14_isIn
set_option maxRecDepth 20000 in
theorem ggX14_foresee_X12_become : GoodIn wsX14_foresee wsX12_become := goodIn_2 24 (goodIn_rr wsB_X14_foresee_in _ [(1, 15), (1, 16), (1, 17), (1, 18), (1, 19), (1, 20), (1, 21), (1, 22), (1, 23), (2, 0), (2, 1), (2, 2), (2, 3), (2, 4), (2, 5), (2, 6), (2, 7), (2, 8), (1, 14), (2, 9), (2, 10), (2, 11), (2, 12), (2, 13)] (by decide +kernel) (by decide +kernel)) (goodIn_rr wsB_X14_foresee_in _ [(7, 0), (7, 1), (7, 2), (7, 3), (7, 4), (7, 5), (7, 6), (7, 7), (7, 8), (7, 9), (7, 10), (7, 11), (7, 12), (7, 13), (7, 14), (7, 15), (7, 16), (7, 17), (7, 18)] (by decide +kernel) (by decide +kernel))
set_option maxRecDepth 20000 in
theorem gX14_foresee_X12_become : GoodIn wsX14_foresee (wsV RX14 365 RX12 yX12_become wsX12_become) := goodIn_app (goodIn_rr wsB_X14_foresee_in _ [(1, 11), (1, 12), (1, 13), (1, 14)] (by decide +kernel) (by decide +kernel)) ggX14_foresee_X12_become
set_option maxRecDepth 20000 in
theorem ggX14_foresee_X14_no : GoodIn wsX14_foresee wsX14_no := goodIn_rr wsB_X14_foresee_in _ [(1, 10), (1, 0), (6, 0), (6, 1), (6, 2), (6, 3), (6, 4), (6, 5), (6, 6), (6, 7), (6, 8), (6, 9), (6, 10), (6, 11), (6, 12), (6, 13), (6, 14)] (by decide +kernel) (by decide +kernel)
set_option maxRecDepth 20000 in
theorem gX14_foresee_X14_no : GoodIn wsX14_foresee (wsV RX14 276 RX14 yX14_no wsX14_no) := goodIn_app (goodIn_rr wsB_X14_foresee_in _ [(1, 7), (1, 8), (1, 9), (1, 5)] (by decide +kernel) (by decide +kernel)) ggX14_foresee_X14_no
theorem k_X14_foresee_f51 : Cond.fieldLink RX14 51 "TideLotsModel" "ahead" "LTideLotsModel$State;" ∈ wsX14_foresee := by decide +kernel
theorem i_X14_foresee_X14 : ∀ w ∈ u_ws RX14 TX14 15, w ∈ wsX14_foresee := by decide +kernel
theorem i_X14_foresee_X12 : ∀ w ∈ u_ws RX12 TX12 19, w ∈ wsX14_foresee := by decide +kernel
theorem k_X14_foresee_f57 : Cond.fieldLink RX14 57 "TideLotsModel" "thrown" "I" ∈ wsX14_foresee := by decide +kernel
theorem k_X14_foresee_f47 : Cond.fieldLink RX14 47 "TideLotsModel" "s" "LTideLotsModel$State;" ∈ wsX14_foresee := by decide +kernel
abbrev rX14_foresee : Room := { frames := 7, cells := 0, slots := 0, locals := 161 }
noncomputable def b_X14_foresee_117 (M : gMem) (s0 : Int32) : Option (Int32 × gMem) :=
  some (s0, M)
noncomputable def bb_X14_foresee_49 (M : gMem) (x0 : Nat) (x1 : Int32) (x2 : Int32) (x3 : Int32) : Option ((gMem × Int32) ⊕ (Int32 × gMem)) :=
  (if x1 ≤ x3 then (if x2 = 0 then ck (mT M x0 = 13) <| dr ((mR M x0 14)) fun a12 => ck (mT M a12 = 11) <| bd (f_X12_sum M a12 ((mR M a12 6))) fun r14 M14 => oI (b_X14_foresee_117 M14 r14) else (if x2 = (1 : Int32) then ck (mT M x0 = 13) <| dr ((mR M x0 14)) fun a7 => ck (mT M a7 = 11) <| bd (f_X12_sum M a7 ((mR M a7 2))) fun r9 M9 => oI (b_X14_foresee_117 M9 r9) else ck (mT M x0 = 13) <| dr ((mR M x0 14)) fun a3 => ck (mT M a3 = 11) <| bd (f_X12_gap M a3) fun r2 M2 => oI (b_X14_foresee_117 M2 r2))) else ck (mT M x0 = 13) <| dr ((mR M x0 14)) fun a18 => ck (mT M a18 = 11) <| bd (f_X12_pass M a18) fun _ M17 => some (.inl (M17, (x3 + (1 : Int32)))))
noncomputable def lp_X14_foresee_49 (M : gMem) (x0 : Nat) (x1 : Int32) (x2 : Int32) (x3 : Int32) : Option (Int32 × gMem) :=
  lp (fun (q : gMem × Int32) => bb_X14_foresee_49 q.1 x0 x1 x2 q.2) (M, x3)
noncomputable def b_X14_foresee_0 (M : gMem) (x0 : Nat) (x1 : Int32) (x2 : Int32) : Option (Int32 × gMem) :=
  ck (mT M x0 = 13) <| lw (wI M x0 0 ((0 : Int32))) fun M21 => bd (f_X14_isIn M21 x1 ((1 : Int32)) ((60 : Int32))) fun r23 M23 => (if r23 = 0 then ck (mT M23 x0 = 13) <| bd (f_X14_no M23 x0 ((1 : Int32))) fun r31 M31 => some (r31, M31) else bd (f_X14_isIn M23 x2 ((0 : Int32)) ((2 : Int32))) fun r24 M24 => (if r24 = 0 then ck (mT M24 x0 = 13) <| bd (f_X14_no M24 x0 ((2 : Int32))) fun r29 M29 => some (r29, M29) else ck (mT M24 x0 = 13) <| dr ((mR M24 x0 14)) fun a27 => ck (mT M24 a27 = 11) <| bd (f_X12_become M24 a27 ((mR M24 x0 13))) fun _ M26 => lp_X14_foresee_49 M26 x0 x1 x2 ((0 : Int32))))
noncomputable def f_X14_foresee (M : gMem) (x0 : Nat) (x1 : Int32) (x2 : Int32) : Option (Int32 × gMem) :=
  b_X14_foresee_0 M x0 x1 x2
set_option maxHeartbeats 4000000 in
set_option maxRecDepth 100000 in
theorem t_X14_foresee_117 (X : gX p s m args meth c D cy B (gSt Z B H0) RX14 cX14_foresee wsX14_foresee 4) (hr : meth.sig.returnType = (some .int)) {Q : State → Prop} : ∀ (M : gMem) (s0 : Int32) (z : Int32 × gMem), b_X14_foresee_117 M s0 = some z → (fun (r : Int32 × gMem) => Q = gMQ below D cy B H0 args s 0 0 (some (vI r.1)) r.2) z → gGo p l e rX14_foresee s m args below meth c D cy B H0 4 0 0 Q 117 [] [vI s0] M := by
  intro M s0 z hf hK
  unfold b_X14_foresee_117 at hf
  cases hf
  refine g_eqQ hK ?_
  exact g_iret X hr dX14_foresee_117
set_option maxHeartbeats 4000000 in
set_option maxRecDepth 100000 in
theorem tb_X14_foresee_49 (X : gX p s m args meth c D cy B (gSt Z B H0) RX14 cX14_foresee wsX14_foresee 4) (hr : meth.sig.returnType = (some .int)) {Q : State → Prop} : ∀ (M : gMem) (x0 : Nat) (x1 : Int32) (x2 : Int32) (x3 : Int32) (z : (gMem × Int32) ⊕ (Int32 × gMem)), bb_X14_foresee_49 M x0 x1 x2 x3 = some z → (Sum.elim (fun (q : gMem × Int32) => gGo p l e rX14_foresee s m args below meth c D cy B H0 4 0 0 Q 49 [(0, vR (some x0)), (1, vI x1), (2, vI x2), (3, vI q.2)] [] q.1) (fun (r : Int32 × gMem) => Q = gMQ below D cy B H0 args s 0 0 (some (vI r.1)) r.2)) z → gGo p l e rX14_foresee s m args below meth c D cy B H0 4 0 0 Q 49 [(0, vR (some x0)), (1, vI x1), (2, vI x2), (3, vI x3)] [] M := by
  intro M x0 x1 x2 x3 z hf hK
  unfold bb_X14_foresee_49 at hf
  refine g_iload_n X dX14_foresee_49 rfl rfl ?_
  refine g_iload_n X dX14_foresee_50 rfl rfl ?_
  refine g_icmp_ge (tgt := 67) X dX14_foresee_51 (by decide) (fun hc => ?_) (fun hc => ?_)
  · have hf := ife_t hc hf
    refine g_iload_n X dX14_foresee_67 rfl rfl ?_
    refine g_if_ne (tgt := 88) X dX14_foresee_68 (by decide) (fun hc => ?_) (fun hc => ?_)
    · have hf := ife_f hc hf
      refine g_iload_n X dX14_foresee_88 rfl rfl ?_
      refine g_iconst (v := (1 : Int32)) X dX14_foresee_89 (by decide) ?_
      refine g_icmp_ne (tgt := 110) X dX14_foresee_90 (by decide) (fun hc => ?_) (fun hc => ?_)
      · have hf := ife_f hc hf
        refine g_aload_n X dX14_foresee_110 rfl rfl ?_
        obtain ⟨hT1, hf⟩ := ck_e hf
        refine g_get (ci := 12) (v := vR (mR M x0 14)) 14 X cdX14 i_X14_foresee_X14 (by decide) k_X14_foresee_f51 rfl dX14_foresee_111 rfl hT1 rfl ?_
        obtain ⟨a3, ha3, hf⟩ := dr_e hf
        obtain ⟨hT4, hf⟩ := ck_e hf
        obtain ⟨r2, M2, hq2, hf⟩ := bd_e hf
        refine g_callV (ci := 10) (b := a3) (As := []) (st := []) (v := some (vI r2)) (M1 := M2) X (m_X12_gap l hq2) (cwV 0 X.2.2.1 gX14_foresee_X12_gap rfl rfl rfl (by decide +kernel) ⟨Nat.le_of_ble_eq_true rfl, Nat.le_of_ble_eq_true rfl⟩) rfl rfl ha3 hT4 (by decide) rfl (Nat.le_of_ble_eq_true rfl) dX14_foresee_114 ⟨by decide, by decide⟩ ?_
        obtain ⟨w5, hw5, hz5⟩ := oI_e hf
        subst hz5
        have hf := hw5
        refine g_sub (lvsub_of _ _ [] rfl) ?_
        exact t_X14_foresee_117 X hr _ _ _ hf hK
      · have hf := ife_t hc hf
        refine g_aload_n X dX14_foresee_93 rfl rfl ?_
        obtain ⟨hT6, hf⟩ := ck_e hf
        refine g_get (ci := 12) (v := vR (mR M x0 14)) 14 X cdX14 i_X14_foresee_X14 (by decide) k_X14_foresee_f51 rfl dX14_foresee_94 rfl hT6 rfl ?_
        refine g_aload_n X dX14_foresee_97 rfl rfl ?_
        refine g_get (ci := 12) (v := vR (mR M x0 14)) 14 X cdX14 i_X14_foresee_X14 (by decide) k_X14_foresee_f51 rfl dX14_foresee_98 rfl hT6 rfl ?_
        obtain ⟨a7, ha7, hf⟩ := dr_e hf
        obtain ⟨hT8, hf⟩ := ck_e hf
        refine g_getN (ci := 10) (w := vR (mR M a7 2)) 2 X cdX12 i_X14_foresee_X12 (by decide) (gNw X _ kn_X14_286) rfl dX14_foresee_101 ha7 hT8 rfl ?_
        obtain ⟨r9, M9, hq9, hf⟩ := bd_e hf
        refine g_callV (ci := 10) (b := a7) (As := [vR (mR M a7 2)]) (st := []) (v := some (vI r9)) (M1 := M9) X (m_X12_sum l hq9) (cwV 1 X.2.2.1 gX14_foresee_X12_sum rfl rfl rfl (by decide +kernel) ⟨Nat.le_of_ble_eq_true rfl, Nat.le_of_ble_eq_true rfl⟩) rfl rfl ha7 hT8 (by decide) rfl (Nat.le_of_ble_eq_true rfl) dX14_foresee_104 ⟨by decide, by decide⟩ ?_
        refine g_goto (tgt := 117) X dX14_foresee_107 (by decide) ?_
        obtain ⟨w10, hw10, hz10⟩ := oI_e hf
        subst hz10
        have hf := hw10
        refine g_sub (lvsub_of _ _ [] rfl) ?_
        exact t_X14_foresee_117 X hr _ _ _ hf hK
    · have hf := ife_t hc hf
      refine g_aload_n X dX14_foresee_71 rfl rfl ?_
      obtain ⟨hT11, hf⟩ := ck_e hf
      refine g_get (ci := 12) (v := vR (mR M x0 14)) 14 X cdX14 i_X14_foresee_X14 (by decide) k_X14_foresee_f51 rfl dX14_foresee_72 rfl hT11 rfl ?_
      refine g_aload_n X dX14_foresee_75 rfl rfl ?_
      refine g_get (ci := 12) (v := vR (mR M x0 14)) 14 X cdX14 i_X14_foresee_X14 (by decide) k_X14_foresee_f51 rfl dX14_foresee_76 rfl hT11 rfl ?_
      obtain ⟨a12, ha12, hf⟩ := dr_e hf
      obtain ⟨hT13, hf⟩ := ck_e hf
      refine g_getN (ci := 10) (w := vR (mR M a12 6)) 6 X cdX12 i_X14_foresee_X12 (by decide) (gNw X _ kn_X14_290) rfl dX14_foresee_79 ha12 hT13 rfl ?_
      obtain ⟨r14, M14, hq14, hf⟩ := bd_e hf
      refine g_callV (ci := 10) (b := a12) (As := [vR (mR M a12 6)]) (st := []) (v := some (vI r14)) (M1 := M14) X (m_X12_sum l hq14) (cwV 1 X.2.2.1 gX14_foresee_X12_sum rfl rfl rfl (by decide +kernel) ⟨Nat.le_of_ble_eq_true rfl, Nat.le_of_ble_eq_true rfl⟩) rfl rfl ha12 hT13 (by decide) rfl (Nat.le_of_ble_eq_true rfl) dX14_foresee_82 ⟨by decide, by decide⟩ ?_
      refine g_goto (tgt := 117) X dX14_foresee_85 (by decide) ?_
      obtain ⟨w15, hw15, hz15⟩ := oI_e hf
      subst hz15
      have hf := hw15
      refine g_sub (lvsub_of _ _ [] rfl) ?_
      exact t_X14_foresee_117 X hr _ _ _ hf hK
  · have hf := ife_f hc hf
    refine g_aload_n X dX14_foresee_54 rfl rfl ?_
    obtain ⟨hT16, hf⟩ := ck_e hf
    refine g_get (ci := 12) (v := vR (mR M x0 14)) 14 X cdX14 i_X14_foresee_X14 (by decide) k_X14_foresee_f51 rfl dX14_foresee_55 rfl hT16 rfl ?_
    obtain ⟨a18, ha18, hf⟩ := dr_e hf
    obtain ⟨hT19, hf⟩ := ck_e hf
    obtain ⟨r17, M17, hq17, hf⟩ := bd_e hf
    refine g_callV (ci := 10) (b := a18) (As := []) (st := []) (v := none) (M1 := M17) X (m_X12_pass l hq17) (cwV 0 X.2.2.1 gX14_foresee_X12_pass rfl rfl rfl (by decide +kernel) ⟨Nat.le_of_ble_eq_true rfl, Nat.le_of_ble_eq_true rfl⟩) rfl rfl ha18 hT19 (by decide) rfl (Nat.le_of_ble_eq_true rfl) dX14_foresee_58 ⟨by decide, by decide⟩ ?_
    refine g_iinc (v := (1 : Int32)) (lv' := [(3, vI (x3 + (1 : Int32))), (0, vR (some x0)), (1, vI x1), (2, vI x2)]) X dX14_foresee_61 rfl (by decide) (by decide) rfl ?_
    refine g_goto (tgt := 49) X dX14_foresee_64 (by decide) ?_
    cases hf
    refine g_sub (lvsub_of _ _ [1, 2, 3, 0] rfl) ?_
    exact hK
set_option maxHeartbeats 4000000 in
set_option maxRecDepth 100000 in
theorem tl_X14_foresee_49 (X : gX p s m args meth c D cy B (gSt Z B H0) RX14 cX14_foresee wsX14_foresee 4) (hr : meth.sig.returnType = (some .int)) {Q : State → Prop} : ∀ (M : gMem) (x0 : Nat) (x1 : Int32) (x2 : Int32) (x3 : Int32) (z : Int32 × gMem), lp_X14_foresee_49 M x0 x1 x2 x3 = some z → (fun (r : Int32 × gMem) => Q = gMQ below D cy B H0 args s 0 0 (some (vI r.1)) r.2) z → gGo p l e rX14_foresee s m args below meth c D cy B H0 4 0 0 Q 49 [(0, vR (some x0)), (1, vI x1), (2, vI x2), (3, vI x3)] [] M := by
  intro M x0 x1 x2 x3 z hf hK
  refine lp_ind (P := (fun (q : gMem × Int32) (z : Int32 × gMem) => (fun (r : Int32 × gMem) => Q = gMQ below D cy B H0 args s 0 0 (some (vI r.1)) r.2) z → gGo p l e rX14_foresee s m args below meth c D cy B H0 4 0 0 Q 49 [(0, vR (some x0)), (1, vI x1), (2, vI x2), (3, vI q.2)] [] q.1)) (fun q z hq => ?_) _ _ hf hK
  intro hK
  obtain ⟨w, hw, hm⟩ := hq
  refine tb_X14_foresee_49 X hr _ _ _ _ _ w hw ?_
  cases w with
  | inl a => exact hm hK
  | inr b => cases hm; exact hK
set_option maxHeartbeats 4000000 in
set_option maxRecDepth 100000 in
theorem t_X14_foresee_0 (X : gX p s m args meth c D cy B (gSt Z B H0) RX14 cX14_foresee wsX14_foresee 4) (hr : meth.sig.returnType = (some .int)) {Q : State → Prop} : ∀ (M : gMem) (x0 : Nat) (x1 : Int32) (x2 : Int32) (z : Int32 × gMem), b_X14_foresee_0 M x0 x1 x2 = some z → (fun (r : Int32 × gMem) => Q = gMQ below D cy B H0 args s 0 0 (some (vI r.1)) r.2) z → gGo p l e rX14_foresee s m args below meth c D cy B H0 4 0 0 Q 0 [(0, vR (some x0)), (1, vI x1), (2, vI x2)] [] M := by
  intro M x0 x1 x2 z hf hK
  unfold b_X14_foresee_0 at hf
  refine g_aload_n X dX14_foresee_0 rfl rfl ?_
  refine g_iconst (v := (0 : Int32)) X dX14_foresee_1 (by decide) ?_
  obtain ⟨hT20, hf⟩ := ck_e hf
  refine g_putI (ci := 12) 0 X cdX14 i_X14_foresee_X14 (by decide) k_X14_foresee_f57 rfl dX14_foresee_2 rfl hT20 (Or.inl rfl) rfl rfl rfl ?_
  obtain ⟨M21, hM21, hf⟩ := lw_e hf
  rw [← hM21]
  have hT22 : mT M21 x0 = 13 := by rw [hM21]; exact hT20
  refine g_iload_n X dX14_foresee_5 rfl rfl ?_
  refine g_iconst (v := (1 : Int32)) X dX14_foresee_6 (by decide) ?_
  refine g_bipush (v := (60 : Int32)) X dX14_foresee_7 (by decide) ?_
  obtain ⟨r23, M23, hq23, hf⟩ := bd_e hf
  refine g_callS (As := [vI x1, vI (1 : Int32), vI (60 : Int32)]) (st := []) (v := some (vI r23)) (M1 := M23) X (m_X14_isIn l hq23) (va_cwS 3 X.2.2.1 gX14_foresee_X14_isIn rfl rfl rfl (by decide +kernel) ⟨Nat.le_of_ble_eq_true rfl, Nat.le_of_ble_eq_true rfl⟩) rfl rfl (Nat.le_of_ble_eq_true rfl) dX14_foresee_9 ⟨by decide, by decide⟩ ?_
  refine g_if_ne (tgt := 21) X dX14_foresee_12 (by decide) (fun hc => ?_) (fun hc => ?_)
  · have hf := ife_f hc hf
    refine g_iload_n X dX14_foresee_21 rfl rfl ?_
    refine g_iconst (v := (0 : Int32)) X dX14_foresee_22 (by decide) ?_
    refine g_iconst (v := (2 : Int32)) X dX14_foresee_23 (by decide) ?_
    obtain ⟨r24, M24, hq24, hf⟩ := bd_e hf
    refine g_callS (As := [vI x2, vI (0 : Int32), vI (2 : Int32)]) (st := []) (v := some (vI r24)) (M1 := M24) X (m_X14_isIn l hq24) (va_cwS 3 X.2.2.1 gX14_foresee_X14_isIn rfl rfl rfl (by decide +kernel) ⟨Nat.le_of_ble_eq_true rfl, Nat.le_of_ble_eq_true rfl⟩) rfl rfl (Nat.le_of_ble_eq_true rfl) dX14_foresee_24 ⟨by decide, by decide⟩ ?_
    refine g_if_ne (tgt := 36) X dX14_foresee_27 (by decide) (fun hc => ?_) (fun hc => ?_)
    · have hf := ife_f hc hf
      refine g_aload_n X dX14_foresee_36 rfl rfl ?_
      obtain ⟨hT25, hf⟩ := ck_e hf
      refine g_get (ci := 12) (v := vR (mR M24 x0 14)) 14 X cdX14 i_X14_foresee_X14 (by decide) k_X14_foresee_f51 rfl dX14_foresee_37 rfl hT25 rfl ?_
      refine g_aload_n X dX14_foresee_40 rfl rfl ?_
      refine g_get (ci := 12) (v := vR (mR M24 x0 13)) 13 X cdX14 i_X14_foresee_X14 (by decide) k_X14_foresee_f47 rfl dX14_foresee_41 rfl hT25 rfl ?_
      obtain ⟨a27, ha27, hf⟩ := dr_e hf
      obtain ⟨hT28, hf⟩ := ck_e hf
      obtain ⟨r26, M26, hq26, hf⟩ := bd_e hf
      refine g_callV (ci := 10) (b := a27) (As := [vR (mR M24 x0 13)]) (st := []) (v := none) (M1 := M26) X (m_X12_become l hq26) (cwV 1 X.2.2.1 gX14_foresee_X12_become rfl rfl rfl (by decide +kernel) ⟨Nat.le_of_ble_eq_true rfl, Nat.le_of_ble_eq_true rfl⟩) rfl rfl ha27 hT28 (by decide) rfl (Nat.le_of_ble_eq_true rfl) dX14_foresee_44 ⟨by decide, by decide⟩ ?_
      refine g_iconst (v := (0 : Int32)) X dX14_foresee_47 (by decide) ?_
      refine g_istore_n (lv' := [(3, vI (0 : Int32)), (0, vR (some x0)), (1, vI x1), (2, vI x2)]) X dX14_foresee_48 rfl (by decide) rfl ?_
      refine g_sub (lvsub_of _ _ [1, 2, 3, 0] rfl) ?_
      exact tl_X14_foresee_49 X hr _ _ _ _ _ _ hf hK
    · have hf := ife_t hc hf
      refine g_aload_n X dX14_foresee_30 rfl rfl ?_
      refine g_iconst (v := (2 : Int32)) X dX14_foresee_31 (by decide) ?_
      obtain ⟨hT30, hf⟩ := ck_e hf
      obtain ⟨r29, M29, hq29, hf⟩ := bd_e hf
      refine g_callV (ci := 12) (b := x0) (As := [vI (2 : Int32)]) (st := []) (v := some (vI r29)) (M1 := M29) X (m_X14_no l hq29) (cwV 1 X.2.2.1 gX14_foresee_X14_no rfl rfl rfl (by decide +kernel) ⟨Nat.le_of_ble_eq_true rfl, Nat.le_of_ble_eq_true rfl⟩) rfl rfl rfl hT30 (by decide) rfl (Nat.le_of_ble_eq_true rfl) dX14_foresee_32 ⟨by decide, by decide⟩ ?_
      cases hf
      refine g_eqQ hK ?_
      exact g_iret X hr dX14_foresee_35
  · have hf := ife_t hc hf
    refine g_aload_n X dX14_foresee_15 rfl rfl ?_
    refine g_iconst (v := (1 : Int32)) X dX14_foresee_16 (by decide) ?_
    obtain ⟨hT32, hf⟩ := ck_e hf
    obtain ⟨r31, M31, hq31, hf⟩ := bd_e hf
    refine g_callV (ci := 12) (b := x0) (As := [vI (1 : Int32)]) (st := []) (v := some (vI r31)) (M1 := M31) X (m_X14_no l hq31) (cwV 1 X.2.2.1 gX14_foresee_X14_no rfl rfl rfl (by decide +kernel) ⟨Nat.le_of_ble_eq_true rfl, Nat.le_of_ble_eq_true rfl⟩) rfl rfl rfl hT32 (by decide) rfl (Nat.le_of_ble_eq_true rfl) dX14_foresee_17 ⟨by decide, by decide⟩ ?_
    cases hf
    refine g_eqQ hK ?_
    exact g_iret X hr dX14_foresee_20
set_option maxHeartbeats 4000000 in
set_option maxRecDepth 100000 in
theorem m_X14_foresee (l : Launch) {D : va_G} {cy : Nat → ClassId} {B : Nat} {H0 : Heap} {Z : Nat → Nat} {M M1 : gMem} {x0 : Nat} {x1 : Int32} {x2 : Int32} {r : Int32} (hf : f_X14_foresee M x0 x1 x2 = some (r, M1)) : Met l yX14_foresee wsX14_foresee rX14_foresee (va_Pc (Value.ref x0 :: List.map gv [vI x1, vI x2]) (gPre D cy B H0 (gSt Z B H0) M)) (gQ D cy B H0 (some (vI r)) M1) 0 0 (gA B) := by
  refine Met.ofW (cc := cX14_foresee) (maxL := 4) (ret := (some .int)) (by decide) rfl ?_
  intro p e s m args below meth c s₁ Bd hml hv
  obtain ⟨rfl, hW, hKK, hFs⟩ := hv
  have X : gX p s m _ meth c D cy B (gSt Z B H0) RX14 cX14_foresee wsX14_foresee 4 := ⟨Bd.exec, Bd.bytes, atoms_spec (ws := wsX14_foresee) Bd.pre, findClass_of_methodNamed Bd.named, hml, hKK, by rw [hW.1]; exact hW.2.1, Bd.notSynchronized, hFs⟩
  have hr := Bd.returns
  have hl := lv_entry ([.ref x0, .int x1, .int x2]) (n := 4) (Nat.le_of_ble_eq_true rfl)
  show W p l e rX14_foresee s m _ below meth c s.heap [] 0 0 _ (entryFrame m ([.ref x0, .int x1, .int x2] : List Value).toArray 4)
  rw [lg_entry_eq]
  generalize (lg_sl ([.ref x0, .int x1, .int x2]) ++ List.replicate (4 - (lg_sl ([.ref x0, .int x1, .int x2])).length) Slot.unset).toArray = ls at hl ⊢
  have hl : lv_has ls 4 (List.map gq [(0, vR (some x0)), (1, vI x1), (2, vI x2)]) := hl
  exact t_X14_foresee_0 X hr _ _ _ _ _ hf rfl s.heap [] ls hW va_S.rf (lv_has_sub hl (lvsub_of _ _ [0, 1, 2] rfl))
/-! ## TideLotsModel.storeAs(IIII)I -/
theorem dX14_storeAs_0 : decode cX14_storeAs 0 = .ok (.aload_n 0, 1) := by decide +kernel
theorem dX14_storeAs_1 : decode cX14_storeAs 1 = .ok (.getfield 51, 3) := by decide +kernel
theorem dX14_storeAs_4 : decode cX14_storeAs 4 = .ok (.aload_n 0, 1) := by decide +kernel
theorem dX14_storeAs_5 : decode cX14_storeAs 5 = .ok (.getfield 47, 3) := by decide +kernel
theorem dX14_storeAs_8 : decode cX14_storeAs 8 = .ok (.invokevirtual 365, 3) := by decide +kernel
theorem dX14_storeAs_11 : decode cX14_storeAs 11 = .ok (.aload_n 0, 1) := by decide +kernel
theorem dX14_storeAs_12 : decode cX14_storeAs 12 = .ok (.getfield 51, 3) := by decide +kernel
theorem dX14_storeAs_15 : decode cX14_storeAs 15 = .ok (.getfield 293, 3) := by decide +kernel
theorem dX14_storeAs_18 : decode cX14_storeAs 18 = .ok (.iload_n 1, 1) := by decide +kernel
theorem dX14_storeAs_19 : decode cX14_storeAs 19 = .ok (.iload_n 3, 1) := by decide +kernel
theorem dX14_storeAs_20 : decode cX14_storeAs 20 = .ok (.iastore, 1) := by decide +kernel
theorem dX14_storeAs_21 : decode cX14_storeAs 21 = .ok (.aload_n 0, 1) := by decide +kernel
theorem dX14_storeAs_22 : decode cX14_storeAs 22 = .ok (.getfield 51, 3) := by decide +kernel
theorem dX14_storeAs_25 : decode cX14_storeAs 25 = .ok (.getfield 282, 3) := by decide +kernel
theorem dX14_storeAs_28 : decode cX14_storeAs 28 = .ok (.iload_n 1, 1) := by decide +kernel
theorem dX14_storeAs_29 : decode cX14_storeAs 29 = .ok (.iload 4, 2) := by decide +kernel
theorem dX14_storeAs_31 : decode cX14_storeAs 31 = .ok (.iastore, 1) := by decide +kernel
theorem dX14_storeAs_32 : decode cX14_storeAs 32 = .ok (.iconst 0, 1) := by decide +kernel
theorem dX14_storeAs_33 : decode cX14_storeAs 33 = .ok (.istore 5, 2) := by decide +kernel
theorem dX14_storeAs_35 : decode cX14_storeAs 35 = .ok (.iload 5, 2) := by decide +kernel
theorem dX14_storeAs_37 : decode cX14_storeAs 37 = .ok (.iload_n 2, 1) := by decide +kernel
theorem dX14_storeAs_38 : decode cX14_storeAs 38 = .ok (.if_icmp .ge 16, 3) := by decide +kernel
theorem dX14_storeAs_41 : decode cX14_storeAs 41 = .ok (.aload_n 0, 1) := by decide +kernel
theorem dX14_storeAs_42 : decode cX14_storeAs 42 = .ok (.getfield 51, 3) := by decide +kernel
theorem dX14_storeAs_45 : decode cX14_storeAs 45 = .ok (.invokevirtual 362, 3) := by decide +kernel
theorem dX14_storeAs_48 : decode cX14_storeAs 48 = .ok (.iinc 5 1, 3) := by decide +kernel
theorem dX14_storeAs_51 : decode cX14_storeAs 51 = .ok (.goto (-16), 3) := by decide +kernel
theorem dX14_storeAs_54 : decode cX14_storeAs 54 = .ok (.aload_n 0, 1) := by decide +kernel
theorem dX14_storeAs_55 : decode cX14_storeAs 55 = .ok (.getfield 51, 3) := by decide +kernel
theorem dX14_storeAs_58 : decode cX14_storeAs 58 = .ok (.getfield 290, 3) := by decide +kernel
theorem dX14_storeAs_61 : decode cX14_storeAs 61 = .ok (.iload_n 1, 1) := by decide +kernel
theorem dX14_storeAs_62 : decode cX14_storeAs 62 = .ok (.iaload, 1) := by decide +kernel
theorem dX14_storeAs_63 : decode cX14_storeAs 63 = .ok (.ireturn, 1) := by decide +kernel
set_option maxRecDepth 20000 in
theorem ggX14_storeAs_X12_pass : GoodIn wsX14_storeAs wsX12_pass := goodIn_2 24 (goodIn_rr wsB_X14_storeAs_in _ [(2, 8), (1, 10), (2, 9), (2, 10), (1, 13), (1, 14), (1, 7), (2, 11), (2, 12), (2, 13), (1, 5), (2, 14), (2, 15), (1, 8), (2, 16), (2, 1), (2, 2), (2, 3), (2, 4), (2, 17), (2, 18), (2, 19), (2, 20), (1, 15)] (by decide +kernel) (by decide +kernel)) (goodIn_2 24 (goodIn_rr wsB_X14_storeAs_in _ [(2, 21), (2, 22), (2, 23), (3, 0), (1, 17), (3, 1), (3, 2), (3, 3), (3, 4), (3, 5), (3, 6), (3, 7), (3, 8), (3, 9), (3, 10), (3, 11), (3, 12), (3, 13), (3, 14), (3, 15), (1, 12), (3, 16), (3, 17), (3, 18)] (by decide +kernel) (by decide +kernel)) (goodIn_2 24 (goodIn_rr wsB_X14_storeAs_in _ [(3, 19), (1, 9), (3, 20), (3, 21), (3, 22), (3, 23), (4, 0), (4, 1), (4, 2), (4, 3), (4, 4), (4, 5), (4, 6), (4, 7), (4, 8), (4, 9), (4, 10), (4, 11), (4, 12), (4, 13), (4, 14), (1, 16), (1, 11), (4, 15)] (by decide +kernel) (by decide +kernel)) (goodIn_2 24 (goodIn_rr wsB_X14_storeAs_in _ [(4, 16), (4, 17), (4, 18), (1, 18), (1, 19), (1, 20), (4, 19), (4, 20), (4, 21), (4, 22), (6, 0), (6, 1), (6, 2), (6, 3), (6, 4), (6, 5), (6, 6), (6, 7), (6, 8), (6, 9), (6, 10), (6, 11), (6, 12), (6, 13)] (by decide +kernel) (by decide +kernel)) (goodIn_2 24 (goodIn_rr wsB_X14_storeAs_in _ [(6, 14), (6, 15), (6, 16), (6, 17), (6, 18), (5, 0), (5, 1), (5, 2), (5, 3), (5, 4), (5, 5), (5, 6), (5, 7), (5, 8), (5, 9), (5, 10), (5, 11), (5, 12), (5, 13), (5, 14), (7, 0), (7, 1), (7, 2), (7, 3)] (by decide +kernel) (by decide +kernel)) (goodIn_rr wsB_X14_storeAs_in _ [(7, 4), (7, 5), (7, 6), (7, 7), (7, 8), (7, 9), (7, 10), (7, 11), (7, 12), (7, 13), (7, 14), (7, 15), (7, 16), (7, 17), (7, 18), (7, 19), (7, 20), (7, 21), (7, 22), (7, 23), (7, 24)] (by decide +kernel) (by decide +kernel))))))
set_option maxRecDepth 20000 in
theorem gX14_storeAs_X12_pass : GoodIn wsX14_storeAs (wsV RX14 362 RX12 yX12_pass wsX12_pass) := goodIn_app (goodIn_rr wsB_X14_storeAs_in _ [(2, 5), (2, 6), (2, 7), (1, 5)] (by decide +kernel) (by decide +kernel)) ggX14_storeAs_X12_pass
set_option maxRecDepth 20000 in
theorem ggX14_storeAs_X12_become : GoodIn wsX14_storeAs wsX12_become := goodIn_2 24 (goodIn_rr wsB_X14_storeAs_in _ [(1, 6), (1, 7), (1, 8), (1, 9), (1, 10), (1, 11), (1, 12), (1, 13), (1, 14), (1, 15), (1, 16), (1, 17), (1, 18), (1, 19), (1, 20), (1, 21), (1, 22), (1, 23), (1, 5), (2, 0), (2, 1), (2, 2), (2, 3), (2, 4)] (by decide +kernel) (by decide +kernel)) (goodIn_rr wsB_X14_storeAs_in _ [(6, 0), (6, 1), (6, 2), (6, 3), (6, 4), (6, 5), (6, 6), (6, 7), (6, 8), (6, 9), (6, 10), (6, 11), (6, 12), (6, 13), (6, 14), (6, 15), (6, 16), (6, 17), (6, 18)] (by decide +kernel) (by decide +kernel))
set_option maxRecDepth 20000 in
theorem gX14_storeAs_X12_become : GoodIn wsX14_storeAs (wsV RX14 365 RX12 yX12_become wsX12_become) := goodIn_app (goodIn_rr wsB_X14_storeAs_in _ [(1, 2), (1, 3), (1, 4), (1, 5)] (by decide +kernel) (by decide +kernel)) ggX14_storeAs_X12_become
theorem k_X14_storeAs_f51 : Cond.fieldLink RX14 51 "TideLotsModel" "ahead" "LTideLotsModel$State;" ∈ wsX14_storeAs := by decide +kernel
theorem i_X14_storeAs_X14 : ∀ w ∈ u_ws RX14 TX14 15, w ∈ wsX14_storeAs := by decide +kernel
theorem i_X14_storeAs_X12 : ∀ w ∈ u_ws RX12 TX12 19, w ∈ wsX14_storeAs := by decide +kernel
theorem k_X14_storeAs_f47 : Cond.fieldLink RX14 47 "TideLotsModel" "s" "LTideLotsModel$State;" ∈ wsX14_storeAs := by decide +kernel
abbrev rX14_storeAs : Room := { frames := 7, cells := 0, slots := 0, locals := 161 }
noncomputable def bb_X14_storeAs_35 (M : gMem) (x0 : Nat) (x1 : Int32) (x2 : Int32) (x5 : Int32) : Option ((gMem × Int32) ⊕ (Int32 × gMem)) :=
  (if x2 ≤ x5 then ck (mT M x0 = 13) <| dr ((mR M x0 14)) fun a2 => ck (mT M a2 = 11) <| dr ((mR M a2 6)) fun a4 => ck (mT M a4 = 20) <| ck (inb x1 (mL M a4)) <| oI (some ((mI M a4 x1.toNatClampNeg), M)) else ck (mT M x0 = 13) <| dr ((mR M x0 14)) fun a10 => ck (mT M a10 = 11) <| bd (f_X12_pass M a10) fun _ M9 => some (.inl (M9, (x5 + (1 : Int32)))))
noncomputable def lp_X14_storeAs_35 (M : gMem) (x0 : Nat) (x1 : Int32) (x2 : Int32) (x5 : Int32) : Option (Int32 × gMem) :=
  lp (fun (q : gMem × Int32) => bb_X14_storeAs_35 q.1 x0 x1 x2 q.2) (M, x5)
noncomputable def b_X14_storeAs_0 (M : gMem) (x0 : Nat) (x1 : Int32) (x2 : Int32) (x3 : Int32) (x4 : Int32) : Option (Int32 × gMem) :=
  ck (mT M x0 = 13) <| dr ((mR M x0 14)) fun a14 => ck (mT M a14 = 11) <| bd (f_X12_become M a14 ((mR M x0 13))) fun _ M13 => ck (mT M13 x0 = 13) <| dr ((mR M13 x0 14)) fun a17 => ck (mT M13 a17 = 11) <| dr ((mR M13 a17 10)) fun a19 => ck (mT M13 a19 = 20) <| ck (inb x1 (mL M13 a19)) <| lw (wI M13 a19 x1.toNatClampNeg x3) fun M22 => dr ((mR M22 x0 14)) fun a26 => ck (mT M22 a26 = 11) <| dr ((mR M22 a26 5)) fun a28 => ck (mT M22 a28 = 20) <| ck (inb x1 (mL M22 a28)) <| lw (wI M22 a28 x1.toNatClampNeg x4) fun M31 => lp_X14_storeAs_35 M31 x0 x1 x2 ((0 : Int32))
noncomputable def f_X14_storeAs (M : gMem) (x0 : Nat) (x1 : Int32) (x2 : Int32) (x3 : Int32) (x4 : Int32) : Option (Int32 × gMem) :=
  b_X14_storeAs_0 M x0 x1 x2 x3 x4
set_option maxHeartbeats 4000000 in
set_option maxRecDepth 100000 in
theorem tb_X14_storeAs_35 (X : gX p s m args meth c D cy B (gSt Z B H0) RX14 cX14_storeAs wsX14_storeAs 6) (hr : meth.sig.returnType = (some .int)) {Q : State → Prop} : ∀ (M : gMem) (x0 : Nat) (x1 : Int32) (x2 : Int32) (x5 : Int32) (z : (gMem × Int32) ⊕ (Int32 × gMem)), bb_X14_storeAs_35 M x0 x1 x2 x5 = some z → (Sum.elim (fun (q : gMem × Int32) => gGo p l e rX14_storeAs s m args below meth c D cy B H0 6 0 0 Q 35 [(0, vR (some x0)), (1, vI x1), (2, vI x2), (5, vI q.2)] [] q.1) (fun (r : Int32 × gMem) => Q = gMQ below D cy B H0 args s 0 0 (some (vI r.1)) r.2)) z → gGo p l e rX14_storeAs s m args below meth c D cy B H0 6 0 0 Q 35 [(0, vR (some x0)), (1, vI x1), (2, vI x2), (5, vI x5)] [] M := by
  intro M x0 x1 x2 x5 z hf hK
  unfold bb_X14_storeAs_35 at hf
  refine g_iload X dX14_storeAs_35 rfl ?_
  refine g_iload_n X dX14_storeAs_37 rfl rfl ?_
  refine g_icmp_ge (tgt := 54) X dX14_storeAs_38 (by decide) (fun hc => ?_) (fun hc => ?_)
  · have hf := ife_t hc hf
    refine g_aload_n X dX14_storeAs_54 rfl rfl ?_
    obtain ⟨hT1, hf⟩ := ck_e hf
    refine g_get (ci := 12) (v := vR (mR M x0 14)) 14 X cdX14 i_X14_storeAs_X14 (by decide) k_X14_storeAs_f51 rfl dX14_storeAs_55 rfl hT1 rfl ?_
    obtain ⟨a2, ha2, hf⟩ := dr_e hf
    obtain ⟨hT3, hf⟩ := ck_e hf
    refine g_getN (ci := 10) (w := vR (mR M a2 6)) 6 X cdX12 i_X14_storeAs_X12 (by decide) (gNw X _ kn_X14_290) rfl dX14_storeAs_58 ha2 hT3 rfl ?_
    refine g_iload_n X dX14_storeAs_61 rfl rfl ?_
    obtain ⟨a4, ha4, hf⟩ := dr_e hf
    obtain ⟨hT5, hf⟩ := ck_e hf
    obtain ⟨hg6, hf⟩ := ck_e hf
    refine g_iald X dX14_storeAs_62 ha4 hT5 hg6 ?_
    obtain ⟨w7, hw7, hz7⟩ := oI_e hf
    subst hz7
    have hf := hw7
    cases hf
    refine g_eqQ hK ?_
    exact g_iret X hr dX14_storeAs_63
  · have hf := ife_f hc hf
    refine g_aload_n X dX14_storeAs_41 rfl rfl ?_
    obtain ⟨hT8, hf⟩ := ck_e hf
    refine g_get (ci := 12) (v := vR (mR M x0 14)) 14 X cdX14 i_X14_storeAs_X14 (by decide) k_X14_storeAs_f51 rfl dX14_storeAs_42 rfl hT8 rfl ?_
    obtain ⟨a10, ha10, hf⟩ := dr_e hf
    obtain ⟨hT11, hf⟩ := ck_e hf
    obtain ⟨r9, M9, hq9, hf⟩ := bd_e hf
    refine g_callV (ci := 10) (b := a10) (As := []) (st := []) (v := none) (M1 := M9) X (m_X12_pass l hq9) (cwV 0 X.2.2.1 gX14_storeAs_X12_pass rfl rfl rfl (by decide +kernel) ⟨Nat.le_of_ble_eq_true rfl, Nat.le_of_ble_eq_true rfl⟩) rfl rfl ha10 hT11 (by decide) rfl (Nat.le_of_ble_eq_true rfl) dX14_storeAs_45 ⟨by decide, by decide⟩ ?_
    refine g_iinc (v := (1 : Int32)) (lv' := [(5, vI (x5 + (1 : Int32))), (0, vR (some x0)), (1, vI x1), (2, vI x2)]) X dX14_storeAs_48 rfl (by decide) (by decide) rfl ?_
    refine g_goto (tgt := 35) X dX14_storeAs_51 (by decide) ?_
    cases hf
    refine g_sub (lvsub_of _ _ [1, 2, 3, 0] rfl) ?_
    exact hK
set_option maxHeartbeats 4000000 in
set_option maxRecDepth 100000 in
theorem tl_X14_storeAs_35 (X : gX p s m args meth c D cy B (gSt Z B H0) RX14 cX14_storeAs wsX14_storeAs 6) (hr : meth.sig.returnType = (some .int)) {Q : State → Prop} : ∀ (M : gMem) (x0 : Nat) (x1 : Int32) (x2 : Int32) (x5 : Int32) (z : Int32 × gMem), lp_X14_storeAs_35 M x0 x1 x2 x5 = some z → (fun (r : Int32 × gMem) => Q = gMQ below D cy B H0 args s 0 0 (some (vI r.1)) r.2) z → gGo p l e rX14_storeAs s m args below meth c D cy B H0 6 0 0 Q 35 [(0, vR (some x0)), (1, vI x1), (2, vI x2), (5, vI x5)] [] M := by
  intro M x0 x1 x2 x5 z hf hK
  refine lp_ind (P := (fun (q : gMem × Int32) (z : Int32 × gMem) => (fun (r : Int32 × gMem) => Q = gMQ below D cy B H0 args s 0 0 (some (vI r.1)) r.2) z → gGo p l e rX14_storeAs s m args below meth c D cy B H0 6 0 0 Q 35 [(0, vR (some x0)), (1, vI x1), (2, vI x2), (5, vI q.2)] [] q.1)) (fun q z hq => ?_) _ _ hf hK
  intro hK
  obtain ⟨w, hw, hm⟩ := hq
  refine tb_X14_storeAs_35 X hr _ _ _ _ _ w hw ?_
  cases w with
  | inl a => exact hm hK
  | inr b => cases hm; exact hK
set_option maxHeartbeats 4000000 in
set_option maxRecDepth 100000 in
theorem t_X14_storeAs_0 (X : gX p s m args meth c D cy B (gSt Z B H0) RX14 cX14_storeAs wsX14_storeAs 6) (hr : meth.sig.returnType = (some .int)) {Q : State → Prop} : ∀ (M : gMem) (x0 : Nat) (x1 : Int32) (x2 : Int32) (x3 : Int32) (x4 : Int32) (z : Int32 × gMem), b_X14_storeAs_0 M x0 x1 x2 x3 x4 = some z → (fun (r : Int32 × gMem) => Q = gMQ below D cy B H0 args s 0 0 (some (vI r.1)) r.2) z → gGo p l e rX14_storeAs s m args below meth c D cy B H0 6 0 0 Q 0 [(0, vR (some x0)), (1, vI x1), (2, vI x2), (3, vI x3), (4, vI x4)] [] M := by
  intro M x0 x1 x2 x3 x4 z hf hK
  unfold b_X14_storeAs_0 at hf
  refine g_aload_n X dX14_storeAs_0 rfl rfl ?_
  obtain ⟨hT12, hf⟩ := ck_e hf
  refine g_get (ci := 12) (v := vR (mR M x0 14)) 14 X cdX14 i_X14_storeAs_X14 (by decide) k_X14_storeAs_f51 rfl dX14_storeAs_1 rfl hT12 rfl ?_
  refine g_aload_n X dX14_storeAs_4 rfl rfl ?_
  refine g_get (ci := 12) (v := vR (mR M x0 13)) 13 X cdX14 i_X14_storeAs_X14 (by decide) k_X14_storeAs_f47 rfl dX14_storeAs_5 rfl hT12 rfl ?_
  obtain ⟨a14, ha14, hf⟩ := dr_e hf
  obtain ⟨hT15, hf⟩ := ck_e hf
  obtain ⟨r13, M13, hq13, hf⟩ := bd_e hf
  refine g_callV (ci := 10) (b := a14) (As := [vR (mR M x0 13)]) (st := []) (v := none) (M1 := M13) X (m_X12_become l hq13) (cwV 1 X.2.2.1 gX14_storeAs_X12_become rfl rfl rfl (by decide +kernel) ⟨Nat.le_of_ble_eq_true rfl, Nat.le_of_ble_eq_true rfl⟩) rfl rfl ha14 hT15 (by decide) rfl (Nat.le_of_ble_eq_true rfl) dX14_storeAs_8 ⟨by decide, by decide⟩ ?_
  refine g_aload_n X dX14_storeAs_11 rfl rfl ?_
  obtain ⟨hT16, hf⟩ := ck_e hf
  refine g_get (ci := 12) (v := vR (mR M13 x0 14)) 14 X cdX14 i_X14_storeAs_X14 (by decide) k_X14_storeAs_f51 rfl dX14_storeAs_12 rfl hT16 rfl ?_
  obtain ⟨a17, ha17, hf⟩ := dr_e hf
  obtain ⟨hT18, hf⟩ := ck_e hf
  refine g_getN (ci := 10) (w := vR (mR M13 a17 10)) 10 X cdX12 i_X14_storeAs_X12 (by decide) (gNw X _ kn_X14_293) rfl dX14_storeAs_15 ha17 hT18 rfl ?_
  refine g_iload_n X dX14_storeAs_18 rfl rfl ?_
  refine g_iload_n X dX14_storeAs_19 rfl rfl ?_
  obtain ⟨a19, ha19, hf⟩ := dr_e hf
  obtain ⟨hT20, hf⟩ := ck_e hf
  obtain ⟨hg21, hf⟩ := ck_e hf
  refine g_iast X dX14_storeAs_20 ha19 hT20 hg21 ?_
  obtain ⟨M22, hM22, hf⟩ := lw_e hf
  rw [← hM22]
  have hT23 : mT M22 x0 = 13 := by rw [hM22]; exact hT16
  have hT24 : mT M22 a17 = 11 := by rw [hM22]; exact hT18
  have hT25 : mT M22 a19 = 20 := by rw [hM22]; exact hT20
  refine g_aload_n X dX14_storeAs_21 rfl rfl ?_
  refine g_get (ci := 12) (v := vR (mR M22 x0 14)) 14 X cdX14 i_X14_storeAs_X14 (by decide) k_X14_storeAs_f51 rfl dX14_storeAs_22 rfl hT23 rfl ?_
  obtain ⟨a26, ha26, hf⟩ := dr_e hf
  obtain ⟨hT27, hf⟩ := ck_e hf
  refine g_getN (ci := 10) (w := vR (mR M22 a26 5)) 5 X cdX12 i_X14_storeAs_X12 (by decide) (gNw X _ kn_X14_282) rfl dX14_storeAs_25 ha26 hT27 rfl ?_
  refine g_iload_n X dX14_storeAs_28 rfl rfl ?_
  refine g_iload X dX14_storeAs_29 rfl ?_
  obtain ⟨a28, ha28, hf⟩ := dr_e hf
  obtain ⟨hT29, hf⟩ := ck_e hf
  obtain ⟨hg30, hf⟩ := ck_e hf
  refine g_iast X dX14_storeAs_31 ha28 hT29 hg30 ?_
  obtain ⟨M31, hM31, hf⟩ := lw_e hf
  rw [← hM31]
  have hT32 : mT M31 x0 = 13 := by rw [hM31]; exact hT23
  have hT33 : mT M31 a17 = 11 := by rw [hM31]; exact hT24
  have hT34 : mT M31 a19 = 20 := by rw [hM31]; exact hT25
  have hT35 : mT M31 a26 = 11 := by rw [hM31]; exact hT27
  have hT36 : mT M31 a28 = 20 := by rw [hM31]; exact hT29
  refine g_iconst (v := (0 : Int32)) X dX14_storeAs_32 (by decide) ?_
  refine g_istore (lv' := [(5, vI (0 : Int32)), (0, vR (some x0)), (1, vI x1), (2, vI x2), (3, vI x3), (4, vI x4)]) X dX14_storeAs_33 (by decide) rfl ?_
  refine g_sub (lvsub_of _ _ [1, 2, 3, 0] rfl) ?_
  exact tl_X14_storeAs_35 X hr _ _ _ _ _ _ hf hK
set_option maxHeartbeats 4000000 in
set_option maxRecDepth 100000 in
theorem m_X14_storeAs (l : Launch) {D : va_G} {cy : Nat → ClassId} {B : Nat} {H0 : Heap} {Z : Nat → Nat} {M M1 : gMem} {x0 : Nat} {x1 : Int32} {x2 : Int32} {x3 : Int32} {x4 : Int32} {r : Int32} (hf : f_X14_storeAs M x0 x1 x2 x3 x4 = some (r, M1)) : Met l yX14_storeAs wsX14_storeAs rX14_storeAs (va_Pc (Value.ref x0 :: List.map gv [vI x1, vI x2, vI x3, vI x4]) (gPre D cy B H0 (gSt Z B H0) M)) (gQ D cy B H0 (some (vI r)) M1) 0 0 (gA B) := by
  refine Met.ofW (cc := cX14_storeAs) (maxL := 6) (ret := (some .int)) (by decide) rfl ?_
  intro p e s m args below meth c s₁ Bd hml hv
  obtain ⟨rfl, hW, hKK, hFs⟩ := hv
  have X : gX p s m _ meth c D cy B (gSt Z B H0) RX14 cX14_storeAs wsX14_storeAs 6 := ⟨Bd.exec, Bd.bytes, atoms_spec (ws := wsX14_storeAs) Bd.pre, findClass_of_methodNamed Bd.named, hml, hKK, by rw [hW.1]; exact hW.2.1, Bd.notSynchronized, hFs⟩
  have hr := Bd.returns
  have hl := lv_entry ([.ref x0, .int x1, .int x2, .int x3, .int x4]) (n := 6) (Nat.le_of_ble_eq_true rfl)
  show W p l e rX14_storeAs s m _ below meth c s.heap [] 0 0 _ (entryFrame m ([.ref x0, .int x1, .int x2, .int x3, .int x4] : List Value).toArray 6)
  rw [lg_entry_eq]
  generalize (lg_sl ([.ref x0, .int x1, .int x2, .int x3, .int x4]) ++ List.replicate (6 - (lg_sl ([.ref x0, .int x1, .int x2, .int x3, .int x4])).length) Slot.unset).toArray = ls at hl ⊢
  have hl : lv_has ls 6 (List.map gq [(0, vR (some x0)), (1, vI x1), (2, vI x2), (3, vI x3), (4, vI x4)]) := hl
  exact t_X14_storeAs_0 X hr _ _ _ _ _ _ _ hf rfl s.heap [] ls hW va_S.rf (lv_has_sub hl (lvsub_of _ _ [0, 1, 2, 3, 4] rfl))
/-! ## TideLotsModel.pays(II)I -/
theorem dX14_pays_0 : decode cX14_pays 0 = .ok (.aload_n 0, 1) := by decide +kernel
theorem dX14_pays_1 : decode cX14_pays 1 = .ok (.iconst 0, 1) := by decide +kernel
theorem dX14_pays_2 : decode cX14_pays 2 = .ok (.putfield 57, 3) := by decide +kernel
theorem dX14_pays_5 : decode cX14_pays 5 = .ok (.aload_n 0, 1) := by decide +kernel
theorem dX14_pays_6 : decode cX14_pays 6 = .ok (.iload_n 1, 1) := by decide +kernel
theorem dX14_pays_7 : decode cX14_pays 7 = .ok (.invokevirtual 329, 3) := by decide +kernel
theorem dX14_pays_10 : decode cX14_pays 10 = .ok (.ifCond .ne 9, 3) := by decide +kernel
theorem dX14_pays_13 : decode cX14_pays 13 = .ok (.aload_n 0, 1) := by decide +kernel
theorem dX14_pays_14 : decode cX14_pays 14 = .ok (.iconst 1, 1) := by decide +kernel
theorem dX14_pays_15 : decode cX14_pays 15 = .ok (.invokevirtual 276, 3) := by decide +kernel
theorem dX14_pays_18 : decode cX14_pays 18 = .ok (.ireturn, 1) := by decide +kernel
theorem dX14_pays_19 : decode cX14_pays 19 = .ok (.iload_n 2, 1) := by decide +kernel
theorem dX14_pays_20 : decode cX14_pays 20 = .ok (.iconst 1, 1) := by decide +kernel
theorem dX14_pays_21 : decode cX14_pays 21 = .ok (.bipush 60, 2) := by decide +kernel
theorem dX14_pays_23 : decode cX14_pays 23 = .ok (.invokestatic 63, 3) := by decide +kernel
theorem dX14_pays_26 : decode cX14_pays 26 = .ok (.ifCond .ne 9, 3) := by decide +kernel
theorem dX14_pays_29 : decode cX14_pays 29 = .ok (.aload_n 0, 1) := by decide +kernel
theorem dX14_pays_30 : decode cX14_pays 30 = .ok (.iconst 2, 1) := by decide +kernel
theorem dX14_pays_31 : decode cX14_pays 31 = .ok (.invokevirtual 276, 3) := by decide +kernel
theorem dX14_pays_34 : decode cX14_pays 34 = .ok (.ireturn, 1) := by decide +kernel
theorem dX14_pays_35 : decode cX14_pays 35 = .ok (.aload_n 0, 1) := by decide +kernel
theorem dX14_pays_36 : decode cX14_pays 36 = .ok (.iload_n 1, 1) := by decide +kernel
theorem dX14_pays_37 : decode cX14_pays 37 = .ok (.iload_n 2, 1) := by decide +kernel
theorem dX14_pays_38 : decode cX14_pays 38 = .ok (.iconst 1, 1) := by decide +kernel
theorem dX14_pays_39 : decode cX14_pays 39 = .ok (.aload_n 0, 1) := by decide +kernel
theorem dX14_pays_40 : decode cX14_pays 40 = .ok (.getfield 47, 3) := by decide +kernel
theorem dX14_pays_43 : decode cX14_pays 43 = .ok (.getfield 282, 3) := by decide +kernel
theorem dX14_pays_46 : decode cX14_pays 46 = .ok (.iload_n 1, 1) := by decide +kernel
theorem dX14_pays_47 : decode cX14_pays 47 = .ok (.iaload, 1) := by decide +kernel
theorem dX14_pays_48 : decode cX14_pays 48 = .ok (.invokevirtual 369, 3) := by decide +kernel
theorem dX14_pays_51 : decode cX14_pays 51 = .ok (.aload_n 0, 1) := by decide +kernel
theorem dX14_pays_52 : decode cX14_pays 52 = .ok (.iload_n 1, 1) := by decide +kernel
theorem dX14_pays_53 : decode cX14_pays 53 = .ok (.iload_n 2, 1) := by decide +kernel
theorem dX14_pays_54 : decode cX14_pays 54 = .ok (.iconst 0, 1) := by decide +kernel
theorem dX14_pays_55 : decode cX14_pays 55 = .ok (.aload_n 0, 1) := by decide +kernel
theorem dX14_pays_56 : decode cX14_pays 56 = .ok (.getfield 47, 3) := by decide +kernel
theorem dX14_pays_59 : decode cX14_pays 59 = .ok (.getfield 282, 3) := by decide +kernel
theorem dX14_pays_62 : decode cX14_pays 62 = .ok (.iload_n 1, 1) := by decide +kernel
theorem dX14_pays_63 : decode cX14_pays 63 = .ok (.iaload, 1) := by decide +kernel
theorem dX14_pays_64 : decode cX14_pays 64 = .ok (.invokevirtual 369, 3) := by decide +kernel
theorem dX14_pays_67 : decode cX14_pays 67 = .ok (.isub, 1) := by decide +kernel
theorem dX14_pays_68 : decode cX14_pays 68 = .ok (.ireturn, 1) := by decide +kernel
set_option maxRecDepth 20000 in
theorem ggX14_pays_X14_isFisher : GoodIn wsX14_pays wsX14_isFisher := goodIn_2 24 (goodIn_rr wsB_X14_pays_in _ [(1, 6), (1, 7), (1, 8), (1, 9), (1, 5), (1, 10), (6, 0), (6, 1), (6, 2), (6, 3), (6, 4), (6, 5), (6, 6), (6, 7), (6, 8), (6, 9), (6, 10), (6, 11), (6, 12), (6, 13), (6, 14), (8, 0), (8, 1), (8, 2)] (by decide +kernel) (by decide +kernel)) (goodIn_rr wsB_X14_pays_in _ [(8, 3), (8, 4), (8, 5), (8, 6), (8, 7), (8, 8), (8, 9), (8, 10), (8, 11), (8, 12), (8, 13), (8, 14), (8, 15), (8, 16), (8, 17), (8, 18), (8, 19), (8, 20), (8, 21), (8, 22), (8, 23), (8, 24)] (by decide +kernel) (by decide +kernel))
set_option maxRecDepth 20000 in
theorem gX14_pays_X14_isFisher : GoodIn wsX14_pays (wsV RX14 329 RX14 yX14_isFisher wsX14_isFisher) := goodIn_app (goodIn_rr wsB_X14_pays_in _ [(1, 2), (1, 3), (1, 4), (1, 5)] (by decide +kernel) (by decide +kernel)) ggX14_pays_X14_isFisher
set_option maxRecDepth 20000 in
theorem ggX14_pays_X14_isIn : GoodIn wsX14_pays wsX14_isIn := goodIn_rr wsB_X14_pays_in _ [(1, 10)] (by decide +kernel) (by decide +kernel)
set_option maxRecDepth 20000 in
theorem gX14_pays_X14_isIn : GoodIn wsX14_pays (va_wsS RX14 63 yX14_isIn wsX14_isIn) := goodIn_app (goodIn_rr wsB_X14_pays_in _ [(1, 8), (1, 9), (1, 5)] (by decide +kernel) (by decide +kernel)) ggX14_pays_X14_isIn
set_option maxRecDepth 20000 in
theorem ggX14_pays_X14_storeAs : GoodIn wsX14_pays wsX14_storeAs := goodIn_2 24 (goodIn_rr wsB_X14_pays_in _ [(1, 18), (1, 19), (1, 1), (1, 20), (1, 21), (1, 22), (1, 23), (2, 0), (2, 1), (2, 2), (2, 3), (2, 4), (2, 5), (2, 6), (2, 7), (2, 8), (2, 9), (2, 10), (2, 11), (2, 12), (2, 13), (2, 14), (2, 15), (2, 16)] (by decide +kernel) (by decide +kernel)) (goodIn_2 24 (goodIn_rr wsB_X14_pays_in _ [(2, 17), (2, 18), (2, 19), (2, 20), (2, 21), (2, 22), (2, 23), (3, 0), (3, 1), (3, 2), (3, 3), (3, 4), (3, 5), (3, 6), (3, 7), (3, 8), (3, 9), (3, 10), (3, 11), (3, 12), (3, 13), (3, 14), (3, 15), (3, 16)] (by decide +kernel) (by decide +kernel)) (goodIn_2 24 (goodIn_rr wsB_X14_pays_in _ [(3, 17), (3, 18), (3, 19), (3, 20), (3, 21), (3, 22), (3, 23), (4, 0), (1, 5), (4, 1), (1, 8), (1, 9), (1, 10), (4, 2), (4, 3), (4, 4), (4, 5), (4, 6), (4, 7), (4, 8), (4, 9), (4, 10), (4, 11), (4, 12)] (by decide +kernel) (by decide +kernel)) (goodIn_2 24 (goodIn_rr wsB_X14_pays_in _ [(4, 13), (4, 14), (4, 15), (4, 16), (4, 17), (4, 18), (4, 19), (4, 20), (4, 21), (4, 22), (4, 23), (5, 0), (5, 1), (5, 2), (5, 3), (5, 4), (5, 5), (5, 6), (5, 7), (5, 8), (5, 9), (5, 10), (5, 11), (5, 12)] (by decide +kernel) (by decide +kernel)) (goodIn_2 24 (goodIn_rr wsB_X14_pays_in _ [(6, 0), (6, 1), (6, 2), (6, 3), (6, 4), (6, 5), (6, 6), (6, 7), (6, 8), (6, 9), (6, 10), (6, 11), (6, 12), (6, 13), (6, 14), (7, 0), (7, 1), (7, 2), (7, 3), (7, 4), (7, 5), (7, 6), (7, 7), (7, 8)] (by decide +kernel) (by decide +kernel)) (goodIn_2 24 (goodIn_rr wsB_X14_pays_in _ [(7, 9), (7, 10), (7, 11), (7, 12), (7, 13), (7, 14), (7, 15), (7, 16), (7, 17), (7, 18), (8, 0), (8, 1), (8, 2), (8, 3), (8, 4), (8, 5), (8, 6), (8, 7), (8, 8), (8, 9), (8, 10), (8, 11), (8, 12), (8, 13)] (by decide +kernel) (by decide +kernel)) (goodIn_rr wsB_X14_pays_in _ [(8, 14), (8, 15), (8, 16), (8, 17), (8, 18), (8, 19), (8, 20), (8, 21), (8, 22), (8, 23), (8, 24)] (by decide +kernel) (by decide +kernel)))))))
set_option maxRecDepth 20000 in
theorem gX14_pays_X14_storeAs : GoodIn wsX14_pays (wsV RX14 369 RX14 yX14_storeAs wsX14_storeAs) := goodIn_app (goodIn_rr wsB_X14_pays_in _ [(1, 15), (1, 16), (1, 17), (1, 5)] (by decide +kernel) (by decide +kernel)) ggX14_pays_X14_storeAs
set_option maxRecDepth 20000 in
theorem ggX14_pays_X14_no : GoodIn wsX14_pays wsX14_no := goodIn_rr wsB_X14_pays_in _ [(1, 14), (1, 0), (6, 0), (6, 1), (6, 2), (6, 3), (6, 4), (6, 5), (6, 6), (6, 7), (6, 8), (6, 9), (6, 10), (6, 11), (6, 12), (6, 13), (6, 14)] (by decide +kernel) (by decide +kernel)
set_option maxRecDepth 20000 in
theorem gX14_pays_X14_no : GoodIn wsX14_pays (wsV RX14 276 RX14 yX14_no wsX14_no) := goodIn_app (goodIn_rr wsB_X14_pays_in _ [(1, 11), (1, 12), (1, 13), (1, 5)] (by decide +kernel) (by decide +kernel)) ggX14_pays_X14_no
theorem k_X14_pays_f57 : Cond.fieldLink RX14 57 "TideLotsModel" "thrown" "I" ∈ wsX14_pays := by decide +kernel
theorem i_X14_pays_X14 : ∀ w ∈ u_ws RX14 TX14 15, w ∈ wsX14_pays := by decide +kernel
theorem k_X14_pays_f47 : Cond.fieldLink RX14 47 "TideLotsModel" "s" "LTideLotsModel$State;" ∈ wsX14_pays := by decide +kernel
theorem i_X14_pays_X12 : ∀ w ∈ u_ws RX12 TX12 19, w ∈ wsX14_pays := by decide +kernel
abbrev rX14_pays : Room := { frames := 8, cells := 0, slots := 0, locals := 186 }
noncomputable def b_X14_pays_0 (M : gMem) (x0 : Nat) (x1 : Int32) (x2 : Int32) : Option (Int32 × gMem) :=
  ck (mT M x0 = 13) <| lw (wI M x0 0 ((0 : Int32))) fun M2 => bd (f_X14_isFisher M2 x0 x1) fun r4 M4 => (if r4 = 0 then ck (mT M4 x0 = 13) <| bd (f_X14_no M4 x0 ((1 : Int32))) fun r22 M22 => some (r22, M22) else bd (f_X14_isIn M4 x2 ((1 : Int32)) ((60 : Int32))) fun r5 M5 => (if r5 = 0 then ck (mT M5 x0 = 13) <| bd (f_X14_no M5 x0 ((2 : Int32))) fun r20 M20 => some (r20, M20) else ck (mT M5 x0 = 13) <| dr ((mR M5 x0 13)) fun a7 => ck (mT M5 a7 = 11) <| dr ((mR M5 a7 5)) fun a9 => ck (mT M5 a9 = 20) <| ck (inb x1 (mL M5 a9)) <| bd (f_X14_storeAs M5 x0 x1 x2 ((1 : Int32)) ((mI M5 a9 x1.toNatClampNeg))) fun r12 M12 => ck (mT M12 x0 = 13) <| dr ((mR M12 x0 13)) fun a14 => ck (mT M12 a14 = 11) <| dr ((mR M12 a14 5)) fun a16 => ck (mT M12 a16 = 20) <| ck (inb x1 (mL M12 a16)) <| bd (f_X14_storeAs M12 x0 x1 x2 ((0 : Int32)) ((mI M12 a16 x1.toNatClampNeg))) fun r19 M19 => some ((r12 - r19), M19)))
noncomputable def f_X14_pays (M : gMem) (x0 : Nat) (x1 : Int32) (x2 : Int32) : Option (Int32 × gMem) :=
  b_X14_pays_0 M x0 x1 x2
set_option maxHeartbeats 4000000 in
set_option maxRecDepth 100000 in
theorem t_X14_pays_0 (X : gX p s m args meth c D cy B (gSt Z B H0) RX14 cX14_pays wsX14_pays 3) (hr : meth.sig.returnType = (some .int)) {Q : State → Prop} : ∀ (M : gMem) (x0 : Nat) (x1 : Int32) (x2 : Int32) (z : Int32 × gMem), b_X14_pays_0 M x0 x1 x2 = some z → (fun (r : Int32 × gMem) => Q = gMQ below D cy B H0 args s 0 0 (some (vI r.1)) r.2) z → gGo p l e rX14_pays s m args below meth c D cy B H0 3 0 0 Q 0 [(0, vR (some x0)), (1, vI x1), (2, vI x2)] [] M := by
  intro M x0 x1 x2 z hf hK
  unfold b_X14_pays_0 at hf
  refine g_aload_n X dX14_pays_0 rfl rfl ?_
  refine g_iconst (v := (0 : Int32)) X dX14_pays_1 (by decide) ?_
  obtain ⟨hT1, hf⟩ := ck_e hf
  refine g_putI (ci := 12) 0 X cdX14 i_X14_pays_X14 (by decide) k_X14_pays_f57 rfl dX14_pays_2 rfl hT1 (Or.inl rfl) rfl rfl rfl ?_
  obtain ⟨M2, hM2, hf⟩ := lw_e hf
  rw [← hM2]
  have hT3 : mT M2 x0 = 13 := by rw [hM2]; exact hT1
  refine g_aload_n X dX14_pays_5 rfl rfl ?_
  refine g_iload_n X dX14_pays_6 rfl rfl ?_
  obtain ⟨r4, M4, hq4, hf⟩ := bd_e hf
  refine g_callV (ci := 12) (b := x0) (As := [vI x1]) (st := []) (v := some (vI r4)) (M1 := M4) X (m_X14_isFisher l hq4) (cwV 1 X.2.2.1 gX14_pays_X14_isFisher rfl rfl rfl (by decide +kernel) ⟨Nat.le_of_ble_eq_true rfl, Nat.le_of_ble_eq_true rfl⟩) rfl rfl rfl hT3 (by decide) rfl (Nat.le_of_ble_eq_true rfl) dX14_pays_7 ⟨by decide, by decide⟩ ?_
  refine g_if_ne (tgt := 19) X dX14_pays_10 (by decide) (fun hc => ?_) (fun hc => ?_)
  · have hf := ife_f hc hf
    refine g_iload_n X dX14_pays_19 rfl rfl ?_
    refine g_iconst (v := (1 : Int32)) X dX14_pays_20 (by decide) ?_
    refine g_bipush (v := (60 : Int32)) X dX14_pays_21 (by decide) ?_
    obtain ⟨r5, M5, hq5, hf⟩ := bd_e hf
    refine g_callS (As := [vI x2, vI (1 : Int32), vI (60 : Int32)]) (st := []) (v := some (vI r5)) (M1 := M5) X (m_X14_isIn l hq5) (va_cwS 3 X.2.2.1 gX14_pays_X14_isIn rfl rfl rfl (by decide +kernel) ⟨Nat.le_of_ble_eq_true rfl, Nat.le_of_ble_eq_true rfl⟩) rfl rfl (Nat.le_of_ble_eq_true rfl) dX14_pays_23 ⟨by decide, by decide⟩ ?_
    refine g_if_ne (tgt := 35) X dX14_pays_26 (by decide) (fun hc => ?_) (fun hc => ?_)
    · have hf := ife_f hc hf
      refine g_aload_n X dX14_pays_35 rfl rfl ?_
      refine g_iload_n X dX14_pays_36 rfl rfl ?_
      refine g_iload_n X dX14_pays_37 rfl rfl ?_
      refine g_iconst (v := (1 : Int32)) X dX14_pays_38 (by decide) ?_
      refine g_aload_n X dX14_pays_39 rfl rfl ?_
      obtain ⟨hT6, hf⟩ := ck_e hf
      refine g_get (ci := 12) (v := vR (mR M5 x0 13)) 13 X cdX14 i_X14_pays_X14 (by decide) k_X14_pays_f47 rfl dX14_pays_40 rfl hT6 rfl ?_
      obtain ⟨a7, ha7, hf⟩ := dr_e hf
      obtain ⟨hT8, hf⟩ := ck_e hf
      refine g_getN (ci := 10) (w := vR (mR M5 a7 5)) 5 X cdX12 i_X14_pays_X12 (by decide) (gNw X _ kn_X14_282) rfl dX14_pays_43 ha7 hT8 rfl ?_
      refine g_iload_n X dX14_pays_46 rfl rfl ?_
      obtain ⟨a9, ha9, hf⟩ := dr_e hf
      obtain ⟨hT10, hf⟩ := ck_e hf
      obtain ⟨hg11, hf⟩ := ck_e hf
      refine g_iald X dX14_pays_47 ha9 hT10 hg11 ?_
      obtain ⟨r12, M12, hq12, hf⟩ := bd_e hf
      refine g_callV (ci := 12) (b := x0) (As := [vI x1, vI x2, vI (1 : Int32), vI (mI M5 a9 x1.toNatClampNeg)]) (st := []) (v := some (vI r12)) (M1 := M12) X (m_X14_storeAs l hq12) (cwV 4 X.2.2.1 gX14_pays_X14_storeAs rfl rfl rfl (by decide +kernel) ⟨Nat.le_of_ble_eq_true rfl, Nat.le_of_ble_eq_true rfl⟩) rfl rfl rfl hT6 (by decide) rfl (Nat.le_of_ble_eq_true rfl) dX14_pays_48 ⟨by decide, by decide⟩ ?_
      refine g_aload_n X dX14_pays_51 rfl rfl ?_
      refine g_iload_n X dX14_pays_52 rfl rfl ?_
      refine g_iload_n X dX14_pays_53 rfl rfl ?_
      refine g_iconst (v := (0 : Int32)) X dX14_pays_54 (by decide) ?_
      refine g_aload_n X dX14_pays_55 rfl rfl ?_
      obtain ⟨hT13, hf⟩ := ck_e hf
      refine g_get (ci := 12) (v := vR (mR M12 x0 13)) 13 X cdX14 i_X14_pays_X14 (by decide) k_X14_pays_f47 rfl dX14_pays_56 rfl hT13 rfl ?_
      obtain ⟨a14, ha14, hf⟩ := dr_e hf
      obtain ⟨hT15, hf⟩ := ck_e hf
      refine g_getN (ci := 10) (w := vR (mR M12 a14 5)) 5 X cdX12 i_X14_pays_X12 (by decide) (gNw X _ kn_X14_282) rfl dX14_pays_59 ha14 hT15 rfl ?_
      refine g_iload_n X dX14_pays_62 rfl rfl ?_
      obtain ⟨a16, ha16, hf⟩ := dr_e hf
      obtain ⟨hT17, hf⟩ := ck_e hf
      obtain ⟨hg18, hf⟩ := ck_e hf
      refine g_iald X dX14_pays_63 ha16 hT17 hg18 ?_
      obtain ⟨r19, M19, hq19, hf⟩ := bd_e hf
      refine g_callV (ci := 12) (b := x0) (As := [vI x1, vI x2, vI (0 : Int32), vI (mI M12 a16 x1.toNatClampNeg)]) (st := [vI r12]) (v := some (vI r19)) (M1 := M19) X (m_X14_storeAs l hq19) (cwV 4 X.2.2.1 gX14_pays_X14_storeAs rfl rfl rfl (by decide +kernel) ⟨Nat.le_of_ble_eq_true rfl, Nat.le_of_ble_eq_true rfl⟩) rfl rfl rfl hT13 (by decide) rfl (Nat.le_of_ble_eq_true rfl) dX14_pays_64 ⟨by decide, by decide⟩ ?_
      refine g_isub X dX14_pays_67 ?_
      cases hf
      refine g_eqQ hK ?_
      exact g_iret X hr dX14_pays_68
    · have hf := ife_t hc hf
      refine g_aload_n X dX14_pays_29 rfl rfl ?_
      refine g_iconst (v := (2 : Int32)) X dX14_pays_30 (by decide) ?_
      obtain ⟨hT21, hf⟩ := ck_e hf
      obtain ⟨r20, M20, hq20, hf⟩ := bd_e hf
      refine g_callV (ci := 12) (b := x0) (As := [vI (2 : Int32)]) (st := []) (v := some (vI r20)) (M1 := M20) X (m_X14_no l hq20) (cwV 1 X.2.2.1 gX14_pays_X14_no rfl rfl rfl (by decide +kernel) ⟨Nat.le_of_ble_eq_true rfl, Nat.le_of_ble_eq_true rfl⟩) rfl rfl rfl hT21 (by decide) rfl (Nat.le_of_ble_eq_true rfl) dX14_pays_31 ⟨by decide, by decide⟩ ?_
      cases hf
      refine g_eqQ hK ?_
      exact g_iret X hr dX14_pays_34
  · have hf := ife_t hc hf
    refine g_aload_n X dX14_pays_13 rfl rfl ?_
    refine g_iconst (v := (1 : Int32)) X dX14_pays_14 (by decide) ?_
    obtain ⟨hT23, hf⟩ := ck_e hf
    obtain ⟨r22, M22, hq22, hf⟩ := bd_e hf
    refine g_callV (ci := 12) (b := x0) (As := [vI (1 : Int32)]) (st := []) (v := some (vI r22)) (M1 := M22) X (m_X14_no l hq22) (cwV 1 X.2.2.1 gX14_pays_X14_no rfl rfl rfl (by decide +kernel) ⟨Nat.le_of_ble_eq_true rfl, Nat.le_of_ble_eq_true rfl⟩) rfl rfl rfl hT23 (by decide) rfl (Nat.le_of_ble_eq_true rfl) dX14_pays_15 ⟨by decide, by decide⟩ ?_
    cases hf
    refine g_eqQ hK ?_
    exact g_iret X hr dX14_pays_18
set_option maxHeartbeats 4000000 in
set_option maxRecDepth 100000 in
theorem m_X14_pays (l : Launch) {D : va_G} {cy : Nat → ClassId} {B : Nat} {H0 : Heap} {Z : Nat → Nat} {M M1 : gMem} {x0 : Nat} {x1 : Int32} {x2 : Int32} {r : Int32} (hf : f_X14_pays M x0 x1 x2 = some (r, M1)) : Met l yX14_pays wsX14_pays rX14_pays (va_Pc (Value.ref x0 :: List.map gv [vI x1, vI x2]) (gPre D cy B H0 (gSt Z B H0) M)) (gQ D cy B H0 (some (vI r)) M1) 0 0 (gA B) := by
  refine Met.ofW (cc := cX14_pays) (maxL := 3) (ret := (some .int)) (by decide) rfl ?_
  intro p e s m args below meth c s₁ Bd hml hv
  obtain ⟨rfl, hW, hKK, hFs⟩ := hv
  have X : gX p s m _ meth c D cy B (gSt Z B H0) RX14 cX14_pays wsX14_pays 3 := ⟨Bd.exec, Bd.bytes, atoms_spec (ws := wsX14_pays) Bd.pre, findClass_of_methodNamed Bd.named, hml, hKK, by rw [hW.1]; exact hW.2.1, Bd.notSynchronized, hFs⟩
  have hr := Bd.returns
  have hl := lv_entry ([.ref x0, .int x1, .int x2]) (n := 3) (Nat.le_of_ble_eq_true rfl)
  show W p l e rX14_pays s m _ below meth c s.heap [] 0 0 _ (entryFrame m ([.ref x0, .int x1, .int x2] : List Value).toArray 3)
  rw [lg_entry_eq]
  generalize (lg_sl ([.ref x0, .int x1, .int x2]) ++ List.replicate (3 - (lg_sl ([.ref x0, .int x1, .int x2])).length) Slot.unset).toArray = ls at hl ⊢
  have hl : lv_has ls 3 (List.map gq [(0, vR (some x0)), (1, vI x1), (2, vI x2)]) := hl
  exact t_X14_pays_0 X hr _ _ _ _ _ hf rfl s.heap [] ls hW va_S.rf (lv_has_sub hl (lvsub_of _ _ [0, 1, 2] rfl))
/-! ## TideLotsModel.empty(I)I -/
theorem dX14_empty_0 : decode cX14_empty 0 = .ok (.aload_n 0, 1) := by decide +kernel
theorem dX14_empty_1 : decode cX14_empty 1 = .ok (.iconst 0, 1) := by decide +kernel
theorem dX14_empty_2 : decode cX14_empty 2 = .ok (.putfield 57, 3) := by decide +kernel
theorem dX14_empty_5 : decode cX14_empty 5 = .ok (.aload_n 0, 1) := by decide +kernel
theorem dX14_empty_6 : decode cX14_empty 6 = .ok (.iload_n 1, 1) := by decide +kernel
theorem dX14_empty_7 : decode cX14_empty 7 = .ok (.invokevirtual 311, 3) := by decide +kernel
theorem dX14_empty_10 : decode cX14_empty 10 = .ok (.ifCond .ne 9, 3) := by decide +kernel
theorem dX14_empty_13 : decode cX14_empty 13 = .ok (.aload_n 0, 1) := by decide +kernel
theorem dX14_empty_14 : decode cX14_empty 14 = .ok (.iconst 1, 1) := by decide +kernel
theorem dX14_empty_15 : decode cX14_empty 15 = .ok (.invokevirtual 276, 3) := by decide +kernel
theorem dX14_empty_18 : decode cX14_empty 18 = .ok (.ireturn, 1) := by decide +kernel
theorem dX14_empty_19 : decode cX14_empty 19 = .ok (.aload_n 0, 1) := by decide +kernel
theorem dX14_empty_20 : decode cX14_empty 20 = .ok (.getfield 51, 3) := by decide +kernel
theorem dX14_empty_23 : decode cX14_empty 23 = .ok (.aload_n 0, 1) := by decide +kernel
theorem dX14_empty_24 : decode cX14_empty 24 = .ok (.getfield 47, 3) := by decide +kernel
theorem dX14_empty_27 : decode cX14_empty 27 = .ok (.invokevirtual 365, 3) := by decide +kernel
theorem dX14_empty_30 : decode cX14_empty 30 = .ok (.iconst 0, 1) := by decide +kernel
theorem dX14_empty_31 : decode cX14_empty 31 = .ok (.istore_n 2, 1) := by decide +kernel
theorem dX14_empty_32 : decode cX14_empty 32 = .ok (.iload_n 2, 1) := by decide +kernel
theorem dX14_empty_33 : decode cX14_empty 33 = .ok (.bipush 100, 2) := by decide +kernel
theorem dX14_empty_35 : decode cX14_empty 35 = .ok (.if_icmp .gt 29, 3) := by decide +kernel
theorem dX14_empty_38 : decode cX14_empty 38 = .ok (.aload_n 0, 1) := by decide +kernel
theorem dX14_empty_39 : decode cX14_empty 39 = .ok (.getfield 51, 3) := by decide +kernel
theorem dX14_empty_42 : decode cX14_empty 42 = .ok (.iload_n 1, 1) := by decide +kernel
theorem dX14_empty_43 : decode cX14_empty 43 = .ok (.invokevirtual 302, 3) := by decide +kernel
theorem dX14_empty_46 : decode cX14_empty 46 = .ok (.ifCond .ne 5, 3) := by decide +kernel
theorem dX14_empty_49 : decode cX14_empty 49 = .ok (.iload_n 2, 1) := by decide +kernel
theorem dX14_empty_50 : decode cX14_empty 50 = .ok (.ireturn, 1) := by decide +kernel
theorem dX14_empty_51 : decode cX14_empty 51 = .ok (.aload_n 0, 1) := by decide +kernel
theorem dX14_empty_52 : decode cX14_empty 52 = .ok (.getfield 51, 3) := by decide +kernel
theorem dX14_empty_55 : decode cX14_empty 55 = .ok (.invokevirtual 362, 3) := by decide +kernel
theorem dX14_empty_58 : decode cX14_empty 58 = .ok (.iinc 2 1, 3) := by decide +kernel
theorem dX14_empty_61 : decode cX14_empty 61 = .ok (.goto (-29), 3) := by decide +kernel
theorem dX14_empty_64 : decode cX14_empty 64 = .ok (.iconst (-1), 1) := by decide +kernel
theorem dX14_empty_65 : decode cX14_empty 65 = .ok (.ireturn, 1) := by decide +kernel
set_option maxRecDepth 20000 in
theorem ggX14_empty_X12_fishAt : GoodIn wsX14_empty wsX12_fishAt := goodIn_rr wsB_X14_empty_in _ [(2, 22), (1, 23), (8, 0), (8, 1), (8, 2), (8, 3), (8, 4), (8, 5), (8, 6), (8, 7), (8, 8), (8, 9), (8, 10), (8, 11), (8, 12), (8, 13), (8, 14), (8, 15), (8, 16), (8, 17), (8, 18)] (by decide +kernel) (by decide +kernel)
set_option maxRecDepth 20000 in
theorem gX14_empty_X12_fishAt : GoodIn wsX14_empty (wsV RX14 302 RX12 yX12_fishAt wsX12_fishAt) := goodIn_app (goodIn_rr wsB_X14_empty_in _ [(2, 19), (2, 20), (2, 21), (1, 19)] (by decide +kernel) (by decide +kernel)) ggX14_empty_X12_fishAt
set_option maxRecDepth 20000 in
theorem ggX14_empty_X12_pass : GoodIn wsX14_empty wsX12_pass := goodIn_2 24 (goodIn_rr wsB_X14_empty_in _ [(3, 2), (2, 0), (3, 3), (3, 4), (2, 3), (2, 4), (1, 21), (3, 5), (3, 6), (3, 7), (1, 19), (3, 8), (3, 9), (1, 22), (3, 10), (2, 15), (2, 16), (2, 17), (2, 18), (3, 11), (3, 12), (3, 13), (3, 14), (2, 5)] (by decide +kernel) (by decide +kernel)) (goodIn_2 24 (goodIn_rr wsB_X14_empty_in _ [(3, 15), (3, 16), (3, 17), (3, 18), (2, 7), (3, 19), (3, 20), (3, 21), (3, 22), (3, 23), (4, 0), (1, 6), (4, 1), (1, 9), (1, 10), (1, 11), (4, 2), (4, 3), (4, 4), (4, 5), (2, 2), (4, 6), (2, 20), (2, 21)] (by decide +kernel) (by decide +kernel)) (goodIn_2 24 (goodIn_rr wsB_X14_empty_in _ [(2, 22), (1, 23), (4, 7), (4, 8), (4, 9), (4, 10), (4, 11), (4, 12), (4, 13), (4, 14), (4, 15), (4, 16), (4, 17), (4, 18), (4, 19), (4, 20), (4, 21), (4, 22), (4, 23), (5, 0), (5, 1), (2, 6), (2, 1), (5, 2)] (by decide +kernel) (by decide +kernel)) (goodIn_2 24 (goodIn_rr wsB_X14_empty_in _ [(5, 3), (5, 4), (5, 5), (2, 8), (2, 9), (2, 10), (5, 6), (5, 7), (5, 8), (5, 9), (8, 0), (8, 1), (8, 2), (8, 3), (8, 4), (8, 5), (8, 6), (8, 7), (8, 8), (8, 9), (8, 10), (8, 11), (8, 12), (8, 13)] (by decide +kernel) (by decide +kernel)) (goodIn_2 24 (goodIn_rr wsB_X14_empty_in _ [(8, 14), (8, 15), (8, 16), (8, 17), (8, 18), (6, 0), (6, 1), (6, 2), (6, 3), (6, 4), (6, 5), (6, 6), (6, 7), (6, 8), (6, 9), (6, 10), (6, 11), (6, 12), (6, 13), (6, 14), (7, 0), (7, 1), (7, 2), (7, 3)] (by decide +kernel) (by decide +kernel)) (goodIn_rr wsB_X14_empty_in _ [(7, 4), (7, 5), (7, 6), (7, 7), (7, 8), (7, 9), (7, 10), (7, 11), (7, 12), (7, 13), (7, 14), (7, 15), (7, 16), (7, 17), (7, 18), (7, 19), (7, 20), (7, 21), (7, 22), (7, 23), (7, 24)] (by decide +kernel) (by decide +kernel))))))
set_option maxRecDepth 20000 in
theorem gX14_empty_X12_pass : GoodIn wsX14_empty (wsV RX14 362 RX12 yX12_pass wsX12_pass) := goodIn_app (goodIn_rr wsB_X14_empty_in _ [(2, 23), (3, 0), (3, 1), (1, 19)] (by decide +kernel) (by decide +kernel)) ggX14_empty_X12_pass
set_option maxRecDepth 20000 in
theorem ggX14_empty_X14_isGround : GoodIn wsX14_empty wsX14_isGround := goodIn_2 24 (goodIn_rr wsB_X14_empty_in _ [(1, 7), (1, 8), (1, 9), (1, 10), (1, 6), (1, 11), (6, 0), (6, 1), (6, 2), (6, 3), (6, 4), (6, 5), (6, 6), (6, 7), (6, 8), (6, 9), (6, 10), (6, 11), (6, 12), (6, 13), (6, 14), (7, 0), (7, 1), (7, 2)] (by decide +kernel) (by decide +kernel)) (goodIn_rr wsB_X14_empty_in _ [(7, 3), (7, 4), (7, 5), (7, 6), (7, 7), (7, 8), (7, 9), (7, 10), (7, 11), (7, 12), (7, 13), (7, 14), (7, 15), (7, 16), (7, 17), (7, 18), (7, 19), (7, 20), (7, 21), (7, 22), (7, 23), (7, 24)] (by decide +kernel) (by decide +kernel))
set_option maxRecDepth 20000 in
theorem gX14_empty_X14_isGround : GoodIn wsX14_empty (wsV RX14 311 RX14 yX14_isGround wsX14_isGround) := goodIn_app (goodIn_rr wsB_X14_empty_in _ [(1, 3), (1, 4), (1, 5), (1, 6)] (by decide +kernel) (by decide +kernel)) ggX14_empty_X14_isGround
set_option maxRecDepth 20000 in
theorem ggX14_empty_X12_become : GoodIn wsX14_empty wsX12_become := goodIn_2 24 (goodIn_rr wsB_X14_empty_in _ [(1, 20), (1, 21), (1, 22), (1, 23), (2, 0), (2, 1), (2, 2), (2, 3), (2, 4), (2, 5), (2, 6), (2, 7), (2, 8), (2, 9), (2, 10), (2, 11), (2, 12), (2, 13), (1, 19), (2, 14), (2, 15), (2, 16), (2, 17), (2, 18)] (by decide +kernel) (by decide +kernel)) (goodIn_rr wsB_X14_empty_in _ [(8, 0), (8, 1), (8, 2), (8, 3), (8, 4), (8, 5), (8, 6), (8, 7), (8, 8), (8, 9), (8, 10), (8, 11), (8, 12), (8, 13), (8, 14), (8, 15), (8, 16), (8, 17), (8, 18)] (by decide +kernel) (by decide +kernel))
set_option maxRecDepth 20000 in
theorem gX14_empty_X12_become : GoodIn wsX14_empty (wsV RX14 365 RX12 yX12_become wsX12_become) := goodIn_app (goodIn_rr wsB_X14_empty_in _ [(1, 16), (1, 17), (1, 18), (1, 19)] (by decide +kernel) (by decide +kernel)) ggX14_empty_X12_become
set_option maxRecDepth 20000 in
theorem ggX14_empty_X14_no : GoodIn wsX14_empty wsX14_no := goodIn_rr wsB_X14_empty_in _ [(1, 15), (1, 0), (6, 0), (6, 1), (6, 2), (6, 3), (6, 4), (6, 5), (6, 6), (6, 7), (6, 8), (6, 9), (6, 10), (6, 11), (6, 12), (6, 13), (6, 14)] (by decide +kernel) (by decide +kernel)
set_option maxRecDepth 20000 in
theorem gX14_empty_X14_no : GoodIn wsX14_empty (wsV RX14 276 RX14 yX14_no wsX14_no) := goodIn_app (goodIn_rr wsB_X14_empty_in _ [(1, 12), (1, 13), (1, 14), (1, 6)] (by decide +kernel) (by decide +kernel)) ggX14_empty_X14_no
theorem k_X14_empty_f51 : Cond.fieldLink RX14 51 "TideLotsModel" "ahead" "LTideLotsModel$State;" ∈ wsX14_empty := by decide +kernel
theorem i_X14_empty_X14 : ∀ w ∈ u_ws RX14 TX14 15, w ∈ wsX14_empty := by decide +kernel
theorem k_X14_empty_f57 : Cond.fieldLink RX14 57 "TideLotsModel" "thrown" "I" ∈ wsX14_empty := by decide +kernel
theorem k_X14_empty_f47 : Cond.fieldLink RX14 47 "TideLotsModel" "s" "LTideLotsModel$State;" ∈ wsX14_empty := by decide +kernel
abbrev rX14_empty : Room := { frames := 7, cells := 0, slots := 0, locals := 161 }
noncomputable def bb_X14_empty_32 (M : gMem) (x0 : Nat) (x1 : Int32) (x2 : Int32) : Option ((gMem × Int32) ⊕ (Int32 × gMem)) :=
  (if (100 : Int32) < x2 then oI (some ((-1 : Int32), M)) else ck (mT M x0 = 13) <| dr ((mR M x0 14)) fun a4 => ck (mT M a4 = 11) <| bd (f_X12_fishAt M a4 x1) fun r3 M3 => (if r3 = 0 then oI (some (x2, M3)) else ck (mT M3 x0 = 13) <| dr ((mR M3 x0 14)) fun a8 => ck (mT M3 a8 = 11) <| bd (f_X12_pass M3 a8) fun _ M7 => some (.inl (M7, (x2 + (1 : Int32))))))
noncomputable def lp_X14_empty_32 (M : gMem) (x0 : Nat) (x1 : Int32) (x2 : Int32) : Option (Int32 × gMem) :=
  lp (fun (q : gMem × Int32) => bb_X14_empty_32 q.1 x0 x1 q.2) (M, x2)
noncomputable def b_X14_empty_0 (M : gMem) (x0 : Nat) (x1 : Int32) : Option (Int32 × gMem) :=
  ck (mT M x0 = 13) <| lw (wI M x0 0 ((0 : Int32))) fun M12 => bd (f_X14_isGround M12 x0 x1) fun r14 M14 => (if r14 = 0 then ck (mT M14 x0 = 13) <| bd (f_X14_no M14 x0 ((1 : Int32))) fun r19 M19 => some (r19, M19) else ck (mT M14 x0 = 13) <| dr ((mR M14 x0 14)) fun a17 => ck (mT M14 a17 = 11) <| bd (f_X12_become M14 a17 ((mR M14 x0 13))) fun _ M16 => lp_X14_empty_32 M16 x0 x1 ((0 : Int32)))
noncomputable def f_X14_empty (M : gMem) (x0 : Nat) (x1 : Int32) : Option (Int32 × gMem) :=
  b_X14_empty_0 M x0 x1
set_option maxHeartbeats 4000000 in
set_option maxRecDepth 100000 in
theorem tb_X14_empty_32 (X : gX p s m args meth c D cy B (gSt Z B H0) RX14 cX14_empty wsX14_empty 3) (hr : meth.sig.returnType = (some .int)) {Q : State → Prop} : ∀ (M : gMem) (x0 : Nat) (x1 : Int32) (x2 : Int32) (z : (gMem × Int32) ⊕ (Int32 × gMem)), bb_X14_empty_32 M x0 x1 x2 = some z → (Sum.elim (fun (q : gMem × Int32) => gGo p l e rX14_empty s m args below meth c D cy B H0 3 0 0 Q 32 [(0, vR (some x0)), (1, vI x1), (2, vI q.2)] [] q.1) (fun (r : Int32 × gMem) => Q = gMQ below D cy B H0 args s 0 0 (some (vI r.1)) r.2)) z → gGo p l e rX14_empty s m args below meth c D cy B H0 3 0 0 Q 32 [(0, vR (some x0)), (1, vI x1), (2, vI x2)] [] M := by
  intro M x0 x1 x2 z hf hK
  unfold bb_X14_empty_32 at hf
  refine g_iload_n X dX14_empty_32 rfl rfl ?_
  refine g_bipush (v := (100 : Int32)) X dX14_empty_33 (by decide) ?_
  refine g_icmp_gt (tgt := 64) X dX14_empty_35 (by decide) (fun hc => ?_) (fun hc => ?_)
  · have hf := ife_t hc hf
    refine g_iconst (v := (-1 : Int32)) X dX14_empty_64 (by decide) ?_
    obtain ⟨w1, hw1, hz1⟩ := oI_e hf
    subst hz1
    have hf := hw1
    cases hf
    refine g_eqQ hK ?_
    exact g_iret X hr dX14_empty_65
  · have hf := ife_f hc hf
    refine g_aload_n X dX14_empty_38 rfl rfl ?_
    obtain ⟨hT2, hf⟩ := ck_e hf
    refine g_get (ci := 12) (v := vR (mR M x0 14)) 14 X cdX14 i_X14_empty_X14 (by decide) k_X14_empty_f51 rfl dX14_empty_39 rfl hT2 rfl ?_
    refine g_iload_n X dX14_empty_42 rfl rfl ?_
    obtain ⟨a4, ha4, hf⟩ := dr_e hf
    obtain ⟨hT5, hf⟩ := ck_e hf
    obtain ⟨r3, M3, hq3, hf⟩ := bd_e hf
    refine g_callV (ci := 10) (b := a4) (As := [vI x1]) (st := []) (v := some (vI r3)) (M1 := M3) X (m_X12_fishAt l hq3) (cwV 1 X.2.2.1 gX14_empty_X12_fishAt rfl rfl rfl (by decide +kernel) ⟨Nat.le_of_ble_eq_true rfl, Nat.le_of_ble_eq_true rfl⟩) rfl rfl ha4 hT5 (by decide) rfl (Nat.le_of_ble_eq_true rfl) dX14_empty_43 ⟨by decide, by decide⟩ ?_
    refine g_if_ne (tgt := 51) X dX14_empty_46 (by decide) (fun hc => ?_) (fun hc => ?_)
    · have hf := ife_f hc hf
      refine g_aload_n X dX14_empty_51 rfl rfl ?_
      obtain ⟨hT6, hf⟩ := ck_e hf
      refine g_get (ci := 12) (v := vR (mR M3 x0 14)) 14 X cdX14 i_X14_empty_X14 (by decide) k_X14_empty_f51 rfl dX14_empty_52 rfl hT6 rfl ?_
      obtain ⟨a8, ha8, hf⟩ := dr_e hf
      obtain ⟨hT9, hf⟩ := ck_e hf
      obtain ⟨r7, M7, hq7, hf⟩ := bd_e hf
      refine g_callV (ci := 10) (b := a8) (As := []) (st := []) (v := none) (M1 := M7) X (m_X12_pass l hq7) (cwV 0 X.2.2.1 gX14_empty_X12_pass rfl rfl rfl (by decide +kernel) ⟨Nat.le_of_ble_eq_true rfl, Nat.le_of_ble_eq_true rfl⟩) rfl rfl ha8 hT9 (by decide) rfl (Nat.le_of_ble_eq_true rfl) dX14_empty_55 ⟨by decide, by decide⟩ ?_
      refine g_iinc (v := (1 : Int32)) (lv' := [(2, vI (x2 + (1 : Int32))), (0, vR (some x0)), (1, vI x1)]) X dX14_empty_58 rfl (by decide) (by decide) rfl ?_
      refine g_goto (tgt := 32) X dX14_empty_61 (by decide) ?_
      cases hf
      refine g_sub (lvsub_of _ _ [1, 2, 0] rfl) ?_
      exact hK
    · have hf := ife_t hc hf
      refine g_iload_n X dX14_empty_49 rfl rfl ?_
      obtain ⟨w10, hw10, hz10⟩ := oI_e hf
      subst hz10
      have hf := hw10
      cases hf
      refine g_eqQ hK ?_
      exact g_iret X hr dX14_empty_50
set_option maxHeartbeats 4000000 in
set_option maxRecDepth 100000 in
theorem tl_X14_empty_32 (X : gX p s m args meth c D cy B (gSt Z B H0) RX14 cX14_empty wsX14_empty 3) (hr : meth.sig.returnType = (some .int)) {Q : State → Prop} : ∀ (M : gMem) (x0 : Nat) (x1 : Int32) (x2 : Int32) (z : Int32 × gMem), lp_X14_empty_32 M x0 x1 x2 = some z → (fun (r : Int32 × gMem) => Q = gMQ below D cy B H0 args s 0 0 (some (vI r.1)) r.2) z → gGo p l e rX14_empty s m args below meth c D cy B H0 3 0 0 Q 32 [(0, vR (some x0)), (1, vI x1), (2, vI x2)] [] M := by
  intro M x0 x1 x2 z hf hK
  refine lp_ind (P := (fun (q : gMem × Int32) (z : Int32 × gMem) => (fun (r : Int32 × gMem) => Q = gMQ below D cy B H0 args s 0 0 (some (vI r.1)) r.2) z → gGo p l e rX14_empty s m args below meth c D cy B H0 3 0 0 Q 32 [(0, vR (some x0)), (1, vI x1), (2, vI q.2)] [] q.1)) (fun q z hq => ?_) _ _ hf hK
  intro hK
  obtain ⟨w, hw, hm⟩ := hq
  refine tb_X14_empty_32 X hr _ _ _ _ w hw ?_
  cases w with
  | inl a => exact hm hK
  | inr b => cases hm; exact hK
set_option maxHeartbeats 4000000 in
set_option maxRecDepth 100000 in
theorem t_X14_empty_0 (X : gX p s m args meth c D cy B (gSt Z B H0) RX14 cX14_empty wsX14_empty 3) (hr : meth.sig.returnType = (some .int)) {Q : State → Prop} : ∀ (M : gMem) (x0 : Nat) (x1 : Int32) (z : Int32 × gMem), b_X14_empty_0 M x0 x1 = some z → (fun (r : Int32 × gMem) => Q = gMQ below D cy B H0 args s 0 0 (some (vI r.1)) r.2) z → gGo p l e rX14_empty s m args below meth c D cy B H0 3 0 0 Q 0 [(0, vR (some x0)), (1, vI x1)] [] M := by
  intro M x0 x1 z hf hK
  unfold b_X14_empty_0 at hf
  refine g_aload_n X dX14_empty_0 rfl rfl ?_
  refine g_iconst (v := (0 : Int32)) X dX14_empty_1 (by decide) ?_
  obtain ⟨hT11, hf⟩ := ck_e hf
  refine g_putI (ci := 12) 0 X cdX14 i_X14_empty_X14 (by decide) k_X14_empty_f57 rfl dX14_empty_2 rfl hT11 (Or.inl rfl) rfl rfl rfl ?_
  obtain ⟨M12, hM12, hf⟩ := lw_e hf
  rw [← hM12]
  have hT13 : mT M12 x0 = 13 := by rw [hM12]; exact hT11
  refine g_aload_n X dX14_empty_5 rfl rfl ?_
  refine g_iload_n X dX14_empty_6 rfl rfl ?_
  obtain ⟨r14, M14, hq14, hf⟩ := bd_e hf
  refine g_callV (ci := 12) (b := x0) (As := [vI x1]) (st := []) (v := some (vI r14)) (M1 := M14) X (m_X14_isGround l hq14) (cwV 1 X.2.2.1 gX14_empty_X14_isGround rfl rfl rfl (by decide +kernel) ⟨Nat.le_of_ble_eq_true rfl, Nat.le_of_ble_eq_true rfl⟩) rfl rfl rfl hT13 (by decide) rfl (Nat.le_of_ble_eq_true rfl) dX14_empty_7 ⟨by decide, by decide⟩ ?_
  refine g_if_ne (tgt := 19) X dX14_empty_10 (by decide) (fun hc => ?_) (fun hc => ?_)
  · have hf := ife_f hc hf
    refine g_aload_n X dX14_empty_19 rfl rfl ?_
    obtain ⟨hT15, hf⟩ := ck_e hf
    refine g_get (ci := 12) (v := vR (mR M14 x0 14)) 14 X cdX14 i_X14_empty_X14 (by decide) k_X14_empty_f51 rfl dX14_empty_20 rfl hT15 rfl ?_
    refine g_aload_n X dX14_empty_23 rfl rfl ?_
    refine g_get (ci := 12) (v := vR (mR M14 x0 13)) 13 X cdX14 i_X14_empty_X14 (by decide) k_X14_empty_f47 rfl dX14_empty_24 rfl hT15 rfl ?_
    obtain ⟨a17, ha17, hf⟩ := dr_e hf
    obtain ⟨hT18, hf⟩ := ck_e hf
    obtain ⟨r16, M16, hq16, hf⟩ := bd_e hf
    refine g_callV (ci := 10) (b := a17) (As := [vR (mR M14 x0 13)]) (st := []) (v := none) (M1 := M16) X (m_X12_become l hq16) (cwV 1 X.2.2.1 gX14_empty_X12_become rfl rfl rfl (by decide +kernel) ⟨Nat.le_of_ble_eq_true rfl, Nat.le_of_ble_eq_true rfl⟩) rfl rfl ha17 hT18 (by decide) rfl (Nat.le_of_ble_eq_true rfl) dX14_empty_27 ⟨by decide, by decide⟩ ?_
    refine g_iconst (v := (0 : Int32)) X dX14_empty_30 (by decide) ?_
    refine g_istore_n (lv' := [(2, vI (0 : Int32)), (0, vR (some x0)), (1, vI x1)]) X dX14_empty_31 rfl (by decide) rfl ?_
    refine g_sub (lvsub_of _ _ [1, 2, 0] rfl) ?_
    exact tl_X14_empty_32 X hr _ _ _ _ _ hf hK
  · have hf := ife_t hc hf
    refine g_aload_n X dX14_empty_13 rfl rfl ?_
    refine g_iconst (v := (1 : Int32)) X dX14_empty_14 (by decide) ?_
    obtain ⟨hT20, hf⟩ := ck_e hf
    obtain ⟨r19, M19, hq19, hf⟩ := bd_e hf
    refine g_callV (ci := 12) (b := x0) (As := [vI (1 : Int32)]) (st := []) (v := some (vI r19)) (M1 := M19) X (m_X14_no l hq19) (cwV 1 X.2.2.1 gX14_empty_X14_no rfl rfl rfl (by decide +kernel) ⟨Nat.le_of_ble_eq_true rfl, Nat.le_of_ble_eq_true rfl⟩) rfl rfl rfl hT20 (by decide) rfl (Nat.le_of_ble_eq_true rfl) dX14_empty_15 ⟨by decide, by decide⟩ ?_
    cases hf
    refine g_eqQ hK ?_
    exact g_iret X hr dX14_empty_18
set_option maxHeartbeats 4000000 in
set_option maxRecDepth 100000 in
theorem m_X14_empty (l : Launch) {D : va_G} {cy : Nat → ClassId} {B : Nat} {H0 : Heap} {Z : Nat → Nat} {M M1 : gMem} {x0 : Nat} {x1 : Int32} {r : Int32} (hf : f_X14_empty M x0 x1 = some (r, M1)) : Met l yX14_empty wsX14_empty rX14_empty (va_Pc (Value.ref x0 :: List.map gv [vI x1]) (gPre D cy B H0 (gSt Z B H0) M)) (gQ D cy B H0 (some (vI r)) M1) 0 0 (gA B) := by
  refine Met.ofW (cc := cX14_empty) (maxL := 3) (ret := (some .int)) (by decide) rfl ?_
  intro p e s m args below meth c s₁ Bd hml hv
  obtain ⟨rfl, hW, hKK, hFs⟩ := hv
  have X : gX p s m _ meth c D cy B (gSt Z B H0) RX14 cX14_empty wsX14_empty 3 := ⟨Bd.exec, Bd.bytes, atoms_spec (ws := wsX14_empty) Bd.pre, findClass_of_methodNamed Bd.named, hml, hKK, by rw [hW.1]; exact hW.2.1, Bd.notSynchronized, hFs⟩
  have hr := Bd.returns
  have hl := lv_entry ([.ref x0, .int x1]) (n := 3) (Nat.le_of_ble_eq_true rfl)
  show W p l e rX14_empty s m _ below meth c s.heap [] 0 0 _ (entryFrame m ([.ref x0, .int x1] : List Value).toArray 3)
  rw [lg_entry_eq]
  generalize (lg_sl ([.ref x0, .int x1]) ++ List.replicate (3 - (lg_sl ([.ref x0, .int x1])).length) Slot.unset).toArray = ls at hl ⊢
  have hl : lv_has ls 3 (List.map gq [(0, vR (some x0)), (1, vI x1)]) := hl
  exact t_X14_empty_0 X hr _ _ _ _ hf rfl s.heap [] ls hW va_S.rf (lv_has_sub hl (lvsub_of _ _ [0, 1] rfl))
/-! ## TideLotsModel.advise(II)I -/
theorem dX14_advise_0 : decode cX14_advise 0 = .ok (.aload_n 0, 1) := by decide +kernel
theorem dX14_advise_1 : decode cX14_advise 1 = .ok (.iconst 0, 1) := by decide +kernel
theorem dX14_advise_2 : decode cX14_advise 2 = .ok (.putfield 57, 3) := by decide +kernel
theorem dX14_advise_5 : decode cX14_advise 5 = .ok (.aload_n 0, 1) := by decide +kernel
theorem dX14_advise_6 : decode cX14_advise 6 = .ok (.iload_n 1, 1) := by decide +kernel
theorem dX14_advise_7 : decode cX14_advise 7 = .ok (.invokevirtual 329, 3) := by decide +kernel
theorem dX14_advise_10 : decode cX14_advise 10 = .ok (.ifCond .ne 9, 3) := by decide +kernel
theorem dX14_advise_13 : decode cX14_advise 13 = .ok (.aload_n 0, 1) := by decide +kernel
theorem dX14_advise_14 : decode cX14_advise 14 = .ok (.iconst 1, 1) := by decide +kernel
theorem dX14_advise_15 : decode cX14_advise 15 = .ok (.invokevirtual 276, 3) := by decide +kernel
theorem dX14_advise_18 : decode cX14_advise 18 = .ok (.ireturn, 1) := by decide +kernel
theorem dX14_advise_19 : decode cX14_advise 19 = .ok (.iload_n 2, 1) := by decide +kernel
theorem dX14_advise_20 : decode cX14_advise 20 = .ok (.iconst 1, 1) := by decide +kernel
theorem dX14_advise_21 : decode cX14_advise 21 = .ok (.bipush 40, 2) := by decide +kernel
theorem dX14_advise_23 : decode cX14_advise 23 = .ok (.invokestatic 63, 3) := by decide +kernel
theorem dX14_advise_26 : decode cX14_advise 26 = .ok (.ifCond .ne 9, 3) := by decide +kernel
theorem dX14_advise_29 : decode cX14_advise 29 = .ok (.aload_n 0, 1) := by decide +kernel
theorem dX14_advise_30 : decode cX14_advise 30 = .ok (.iconst 2, 1) := by decide +kernel
theorem dX14_advise_31 : decode cX14_advise 31 = .ok (.invokevirtual 276, 3) := by decide +kernel
theorem dX14_advise_34 : decode cX14_advise 34 = .ok (.ireturn, 1) := by decide +kernel
theorem dX14_advise_35 : decode cX14_advise 35 = .ok (.iconst 0, 1) := by decide +kernel
theorem dX14_advise_36 : decode cX14_advise 36 = .ok (.istore_n 3, 1) := by decide +kernel
theorem dX14_advise_37 : decode cX14_advise 37 = .ok (.iconst 0, 1) := by decide +kernel
theorem dX14_advise_38 : decode cX14_advise 38 = .ok (.istore 4, 2) := by decide +kernel
theorem dX14_advise_40 : decode cX14_advise 40 = .ok (.iconst 1, 1) := by decide +kernel
theorem dX14_advise_41 : decode cX14_advise 41 = .ok (.istore 5, 2) := by decide +kernel
theorem dX14_advise_43 : decode cX14_advise 43 = .ok (.iload 5, 2) := by decide +kernel
theorem dX14_advise_45 : decode cX14_advise 45 = .ok (.iconst 5, 1) := by decide +kernel
theorem dX14_advise_46 : decode cX14_advise 46 = .ok (.if_icmp .gt 49, 3) := by decide +kernel
theorem dX14_advise_49 : decode cX14_advise 49 = .ok (.aload_n 0, 1) := by decide +kernel
theorem dX14_advise_50 : decode cX14_advise 50 = .ok (.iload_n 1, 1) := by decide +kernel
theorem dX14_advise_51 : decode cX14_advise 51 = .ok (.iload_n 2, 1) := by decide +kernel
theorem dX14_advise_52 : decode cX14_advise 52 = .ok (.aload_n 0, 1) := by decide +kernel
theorem dX14_advise_53 : decode cX14_advise 53 = .ok (.getfield 47, 3) := by decide +kernel
theorem dX14_advise_56 : decode cX14_advise 56 = .ok (.getfield 293, 3) := by decide +kernel
theorem dX14_advise_59 : decode cX14_advise 59 = .ok (.iload_n 1, 1) := by decide +kernel
theorem dX14_advise_60 : decode cX14_advise 60 = .ok (.iaload, 1) := by decide +kernel
theorem dX14_advise_61 : decode cX14_advise 61 = .ok (.iload 5, 2) := by decide +kernel
theorem dX14_advise_63 : decode cX14_advise 63 = .ok (.invokevirtual 369, 3) := by decide +kernel
theorem dX14_advise_66 : decode cX14_advise 66 = .ok (.istore 6, 2) := by decide +kernel
theorem dX14_advise_68 : decode cX14_advise 68 = .ok (.iload_n 3, 1) := by decide +kernel
theorem dX14_advise_69 : decode cX14_advise 69 = .ok (.ifCond .le 13, 3) := by decide +kernel
theorem dX14_advise_72 : decode cX14_advise 72 = .ok (.iload 6, 2) := by decide +kernel
theorem dX14_advise_74 : decode cX14_advise 74 = .ok (.iload 4, 2) := by decide +kernel
theorem dX14_advise_76 : decode cX14_advise 76 = .ok (.if_icmp .gt 6, 3) := by decide +kernel
theorem dX14_advise_79 : decode cX14_advise 79 = .ok (.goto 10, 3) := by decide +kernel
theorem dX14_advise_82 : decode cX14_advise 82 = .ok (.iload 5, 2) := by decide +kernel
theorem dX14_advise_84 : decode cX14_advise 84 = .ok (.istore_n 3, 1) := by decide +kernel
theorem dX14_advise_85 : decode cX14_advise 85 = .ok (.iload 6, 2) := by decide +kernel
theorem dX14_advise_87 : decode cX14_advise 87 = .ok (.istore 4, 2) := by decide +kernel
theorem dX14_advise_89 : decode cX14_advise 89 = .ok (.iinc 5 1, 3) := by decide +kernel
theorem dX14_advise_92 : decode cX14_advise 92 = .ok (.goto (-49), 3) := by decide +kernel
theorem dX14_advise_95 : decode cX14_advise 95 = .ok (.iload_n 3, 1) := by decide +kernel
theorem dX14_advise_96 : decode cX14_advise 96 = .ok (.ireturn, 1) := by decide +kernel
set_option maxRecDepth 20000 in
theorem ggX14_advise_X14_storeAs : GoodIn wsX14_advise wsX14_storeAs := goodIn_2 24 (goodIn_rr wsB_X14_advise_in _ [(1, 18), (1, 19), (1, 1), (1, 20), (1, 21), (1, 22), (1, 23), (2, 0), (2, 1), (2, 2), (2, 3), (2, 4), (2, 5), (2, 6), (2, 7), (2, 8), (2, 9), (2, 10), (2, 11), (2, 12), (2, 13), (2, 14), (2, 15), (2, 16)] (by decide +kernel) (by decide +kernel)) (goodIn_2 24 (goodIn_rr wsB_X14_advise_in _ [(2, 17), (2, 18), (2, 19), (2, 20), (2, 21), (2, 22), (2, 23), (3, 0), (3, 1), (3, 2), (3, 3), (3, 4), (3, 5), (3, 6), (3, 7), (3, 8), (3, 9), (3, 10), (3, 11), (3, 12), (3, 13), (3, 14), (3, 15), (3, 16)] (by decide +kernel) (by decide +kernel)) (goodIn_2 24 (goodIn_rr wsB_X14_advise_in _ [(3, 17), (3, 18), (3, 19), (3, 20), (3, 21), (3, 22), (3, 23), (4, 0), (1, 5), (4, 1), (1, 8), (1, 9), (1, 10), (4, 2), (4, 3), (4, 4), (4, 5), (4, 6), (4, 7), (4, 8), (4, 9), (4, 10), (4, 11), (4, 12)] (by decide +kernel) (by decide +kernel)) (goodIn_2 24 (goodIn_rr wsB_X14_advise_in _ [(4, 13), (4, 14), (4, 15), (4, 16), (4, 17), (4, 18), (4, 19), (4, 20), (4, 21), (4, 22), (4, 23), (5, 0), (5, 1), (5, 2), (5, 3), (5, 4), (5, 5), (5, 6), (5, 7), (5, 8), (5, 9), (5, 10), (5, 11), (5, 12)] (by decide +kernel) (by decide +kernel)) (goodIn_2 24 (goodIn_rr wsB_X14_advise_in _ [(6, 0), (6, 1), (6, 2), (6, 3), (6, 4), (6, 5), (6, 6), (6, 7), (6, 8), (6, 9), (6, 10), (6, 11), (6, 12), (6, 13), (6, 14), (7, 0), (7, 1), (7, 2), (7, 3), (7, 4), (7, 5), (7, 6), (7, 7), (7, 8)] (by decide +kernel) (by decide +kernel)) (goodIn_2 24 (goodIn_rr wsB_X14_advise_in _ [(7, 9), (7, 10), (7, 11), (7, 12), (7, 13), (7, 14), (7, 15), (7, 16), (7, 17), (7, 18), (8, 0), (8, 1), (8, 2), (8, 3), (8, 4), (8, 5), (8, 6), (8, 7), (8, 8), (8, 9), (8, 10), (8, 11), (8, 12), (8, 13)] (by decide +kernel) (by decide +kernel)) (goodIn_rr wsB_X14_advise_in _ [(8, 14), (8, 15), (8, 16), (8, 17), (8, 18), (8, 19), (8, 20), (8, 21), (8, 22), (8, 23), (8, 24)] (by decide +kernel) (by decide +kernel)))))))
set_option maxRecDepth 20000 in
theorem gX14_advise_X14_storeAs : GoodIn wsX14_advise (wsV RX14 369 RX14 yX14_storeAs wsX14_storeAs) := goodIn_app (goodIn_rr wsB_X14_advise_in _ [(1, 15), (1, 16), (1, 17), (1, 5)] (by decide +kernel) (by decide +kernel)) ggX14_advise_X14_storeAs
set_option maxRecDepth 20000 in
theorem ggX14_advise_X14_isFisher : GoodIn wsX14_advise wsX14_isFisher := goodIn_2 24 (goodIn_rr wsB_X14_advise_in _ [(1, 6), (1, 7), (1, 8), (1, 9), (1, 5), (1, 10), (6, 0), (6, 1), (6, 2), (6, 3), (6, 4), (6, 5), (6, 6), (6, 7), (6, 8), (6, 9), (6, 10), (6, 11), (6, 12), (6, 13), (6, 14), (8, 0), (8, 1), (8, 2)] (by decide +kernel) (by decide +kernel)) (goodIn_rr wsB_X14_advise_in _ [(8, 3), (8, 4), (8, 5), (8, 6), (8, 7), (8, 8), (8, 9), (8, 10), (8, 11), (8, 12), (8, 13), (8, 14), (8, 15), (8, 16), (8, 17), (8, 18), (8, 19), (8, 20), (8, 21), (8, 22), (8, 23), (8, 24)] (by decide +kernel) (by decide +kernel))
set_option maxRecDepth 20000 in
theorem gX14_advise_X14_isFisher : GoodIn wsX14_advise (wsV RX14 329 RX14 yX14_isFisher wsX14_isFisher) := goodIn_app (goodIn_rr wsB_X14_advise_in _ [(1, 2), (1, 3), (1, 4), (1, 5)] (by decide +kernel) (by decide +kernel)) ggX14_advise_X14_isFisher
set_option maxRecDepth 20000 in
theorem ggX14_advise_X14_isIn : GoodIn wsX14_advise wsX14_isIn := goodIn_rr wsB_X14_advise_in _ [(1, 10)] (by decide +kernel) (by decide +kernel)
set_option maxRecDepth 20000 in
theorem gX14_advise_X14_isIn : GoodIn wsX14_advise (va_wsS RX14 63 yX14_isIn wsX14_isIn) := goodIn_app (goodIn_rr wsB_X14_advise_in _ [(1, 8), (1, 9), (1, 5)] (by decide +kernel) (by decide +kernel)) ggX14_advise_X14_isIn
set_option maxRecDepth 20000 in
theorem ggX14_advise_X14_no : GoodIn wsX14_advise wsX14_no := goodIn_rr wsB_X14_advise_in _ [(1, 14), (1, 0), (6, 0), (6, 1), (6, 2), (6, 3), (6, 4), (6, 5), (6, 6), (6, 7), (6, 8), (6, 9), (6, 10), (6, 11), (6, 12), (6, 13), (6, 14)] (by decide +kernel) (by decide +kernel)
set_option maxRecDepth 20000 in
theorem gX14_advise_X14_no : GoodIn wsX14_advise (wsV RX14 276 RX14 yX14_no wsX14_no) := goodIn_app (goodIn_rr wsB_X14_advise_in _ [(1, 11), (1, 12), (1, 13), (1, 5)] (by decide +kernel) (by decide +kernel)) ggX14_advise_X14_no
theorem k_X14_advise_f47 : Cond.fieldLink RX14 47 "TideLotsModel" "s" "LTideLotsModel$State;" ∈ wsX14_advise := by decide +kernel
theorem i_X14_advise_X14 : ∀ w ∈ u_ws RX14 TX14 15, w ∈ wsX14_advise := by decide +kernel
theorem i_X14_advise_X12 : ∀ w ∈ u_ws RX12 TX12 19, w ∈ wsX14_advise := by decide +kernel
theorem k_X14_advise_f57 : Cond.fieldLink RX14 57 "TideLotsModel" "thrown" "I" ∈ wsX14_advise := by decide +kernel
abbrev rX14_advise : Room := { frames := 8, cells := 0, slots := 0, locals := 186 }
noncomputable def b_X14_advise_89 (M : gMem) (x0 : Nat) (x1 : Int32) (x2 : Int32) (x3 : Int32) (x4 : Int32) (x5 : Int32) : Option ((gMem × Int32 × Int32 × Int32) ⊕ (Int32 × gMem)) :=
  some (.inl (M, x3, x4, (x5 + (1 : Int32))))
noncomputable def b_X14_advise_82 (M : gMem) (x0 : Nat) (x1 : Int32) (x2 : Int32) (x5 : Int32) (x6 : Int32) : Option ((gMem × Int32 × Int32 × Int32) ⊕ (Int32 × gMem)) :=
  b_X14_advise_89 M x0 x1 x2 x5 x6 x5
noncomputable def bb_X14_advise_43 (M : gMem) (x0 : Nat) (x1 : Int32) (x2 : Int32) (x3 : Int32) (x4 : Int32) (x5 : Int32) : Option ((gMem × Int32 × Int32 × Int32) ⊕ (Int32 × gMem)) :=
  (if (5 : Int32) < x5 then oI (some (x3, M)) else ck (mT M x0 = 13) <| dr ((mR M x0 13)) fun a3 => ck (mT M a3 = 11) <| dr ((mR M a3 10)) fun a5 => ck (mT M a5 = 20) <| ck (inb x1 (mL M a5)) <| bd (f_X14_storeAs M x0 x1 x2 ((mI M a5 x1.toNatClampNeg)) x5) fun r8 M8 => (if x3 ≤ 0 then b_X14_advise_82 M8 x0 x1 x2 x5 r8 else (if x4 < r8 then b_X14_advise_82 M8 x0 x1 x2 x5 r8 else b_X14_advise_89 M8 x0 x1 x2 x3 x4 x5)))
noncomputable def lp_X14_advise_43 (M : gMem) (x0 : Nat) (x1 : Int32) (x2 : Int32) (x3 : Int32) (x4 : Int32) (x5 : Int32) : Option (Int32 × gMem) :=
  lp (fun (q : gMem × Int32 × Int32 × Int32) => bb_X14_advise_43 q.1 x0 x1 x2 q.2.1 q.2.2.1 q.2.2.2) (M, x3, x4, x5)
noncomputable def b_X14_advise_0 (M : gMem) (x0 : Nat) (x1 : Int32) (x2 : Int32) : Option (Int32 × gMem) :=
  ck (mT M x0 = 13) <| lw (wI M x0 0 ((0 : Int32))) fun M10 => bd (f_X14_isFisher M10 x0 x1) fun r12 M12 => (if r12 = 0 then ck (mT M12 x0 = 13) <| bd (f_X14_no M12 x0 ((1 : Int32))) fun r16 M16 => some (r16, M16) else bd (f_X14_isIn M12 x2 ((1 : Int32)) ((40 : Int32))) fun r13 M13 => (if r13 = 0 then ck (mT M13 x0 = 13) <| bd (f_X14_no M13 x0 ((2 : Int32))) fun r14 M14 => some (r14, M14) else lp_X14_advise_43 M13 x0 x1 x2 ((0 : Int32)) ((0 : Int32)) ((1 : Int32))))
noncomputable def f_X14_advise (M : gMem) (x0 : Nat) (x1 : Int32) (x2 : Int32) : Option (Int32 × gMem) :=
  b_X14_advise_0 M x0 x1 x2
set_option maxHeartbeats 4000000 in
set_option maxRecDepth 100000 in
theorem t_X14_advise_89 (X : gX p s m args meth c D cy B (gSt Z B H0) RX14 cX14_advise wsX14_advise 7) (hr : meth.sig.returnType = (some .int)) {Q : State → Prop} : ∀ (M : gMem) (x0 : Nat) (x1 : Int32) (x2 : Int32) (x3 : Int32) (x4 : Int32) (x5 : Int32) (z : (gMem × Int32 × Int32 × Int32) ⊕ (Int32 × gMem)), b_X14_advise_89 M x0 x1 x2 x3 x4 x5 = some z → (Sum.elim (fun (q : gMem × Int32 × Int32 × Int32) => gGo p l e rX14_advise s m args below meth c D cy B H0 7 0 0 Q 43 [(0, vR (some x0)), (1, vI x1), (2, vI x2), (3, vI q.2.1), (4, vI q.2.2.1), (5, vI q.2.2.2)] [] q.1) (fun (r : Int32 × gMem) => Q = gMQ below D cy B H0 args s 0 0 (some (vI r.1)) r.2)) z → gGo p l e rX14_advise s m args below meth c D cy B H0 7 0 0 Q 89 [(0, vR (some x0)), (1, vI x1), (2, vI x2), (3, vI x3), (4, vI x4), (5, vI x5)] [] M := by
  intro M x0 x1 x2 x3 x4 x5 z hf hK
  unfold b_X14_advise_89 at hf
  refine g_iinc (v := (1 : Int32)) (lv' := [(5, vI (x5 + (1 : Int32))), (0, vR (some x0)), (1, vI x1), (2, vI x2), (3, vI x3), (4, vI x4)]) X dX14_advise_89 rfl (by decide) (by decide) rfl ?_
  refine g_goto (tgt := 43) X dX14_advise_92 (by decide) ?_
  cases hf
  refine g_sub (lvsub_of _ _ [1, 2, 3, 4, 5, 0] rfl) ?_
  exact hK
set_option maxHeartbeats 4000000 in
set_option maxRecDepth 100000 in
theorem t_X14_advise_82 (X : gX p s m args meth c D cy B (gSt Z B H0) RX14 cX14_advise wsX14_advise 7) (hr : meth.sig.returnType = (some .int)) {Q : State → Prop} : ∀ (M : gMem) (x0 : Nat) (x1 : Int32) (x2 : Int32) (x5 : Int32) (x6 : Int32) (z : (gMem × Int32 × Int32 × Int32) ⊕ (Int32 × gMem)), b_X14_advise_82 M x0 x1 x2 x5 x6 = some z → (Sum.elim (fun (q : gMem × Int32 × Int32 × Int32) => gGo p l e rX14_advise s m args below meth c D cy B H0 7 0 0 Q 43 [(0, vR (some x0)), (1, vI x1), (2, vI x2), (3, vI q.2.1), (4, vI q.2.2.1), (5, vI q.2.2.2)] [] q.1) (fun (r : Int32 × gMem) => Q = gMQ below D cy B H0 args s 0 0 (some (vI r.1)) r.2)) z → gGo p l e rX14_advise s m args below meth c D cy B H0 7 0 0 Q 82 [(0, vR (some x0)), (1, vI x1), (2, vI x2), (5, vI x5), (6, vI x6)] [] M := by
  intro M x0 x1 x2 x5 x6 z hf hK
  unfold b_X14_advise_82 at hf
  refine g_iload X dX14_advise_82 rfl ?_
  refine g_istore_n (lv' := [(3, vI x5), (0, vR (some x0)), (1, vI x1), (2, vI x2), (5, vI x5), (6, vI x6)]) X dX14_advise_84 rfl (by decide) rfl ?_
  refine g_iload X dX14_advise_85 rfl ?_
  refine g_istore (lv' := [(4, vI x6), (3, vI x5), (0, vR (some x0)), (1, vI x1), (2, vI x2), (5, vI x5), (6, vI x6)]) X dX14_advise_87 (by decide) rfl ?_
  refine g_sub (lvsub_of _ _ [2, 3, 4, 1, 0, 5] rfl) ?_
  exact t_X14_advise_89 X hr _ _ _ _ _ _ _ _ hf hK
set_option maxHeartbeats 4000000 in
set_option maxRecDepth 100000 in
theorem tb_X14_advise_43 (X : gX p s m args meth c D cy B (gSt Z B H0) RX14 cX14_advise wsX14_advise 7) (hr : meth.sig.returnType = (some .int)) {Q : State → Prop} : ∀ (M : gMem) (x0 : Nat) (x1 : Int32) (x2 : Int32) (x3 : Int32) (x4 : Int32) (x5 : Int32) (z : (gMem × Int32 × Int32 × Int32) ⊕ (Int32 × gMem)), bb_X14_advise_43 M x0 x1 x2 x3 x4 x5 = some z → (Sum.elim (fun (q : gMem × Int32 × Int32 × Int32) => gGo p l e rX14_advise s m args below meth c D cy B H0 7 0 0 Q 43 [(0, vR (some x0)), (1, vI x1), (2, vI x2), (3, vI q.2.1), (4, vI q.2.2.1), (5, vI q.2.2.2)] [] q.1) (fun (r : Int32 × gMem) => Q = gMQ below D cy B H0 args s 0 0 (some (vI r.1)) r.2)) z → gGo p l e rX14_advise s m args below meth c D cy B H0 7 0 0 Q 43 [(0, vR (some x0)), (1, vI x1), (2, vI x2), (3, vI x3), (4, vI x4), (5, vI x5)] [] M := by
  intro M x0 x1 x2 x3 x4 x5 z hf hK
  unfold bb_X14_advise_43 at hf
  refine g_iload X dX14_advise_43 rfl ?_
  refine g_iconst (v := (5 : Int32)) X dX14_advise_45 (by decide) ?_
  refine g_icmp_gt (tgt := 95) X dX14_advise_46 (by decide) (fun hc => ?_) (fun hc => ?_)
  · have hf := ife_t hc hf
    refine g_iload_n X dX14_advise_95 rfl rfl ?_
    obtain ⟨w1, hw1, hz1⟩ := oI_e hf
    subst hz1
    have hf := hw1
    cases hf
    refine g_eqQ hK ?_
    exact g_iret X hr dX14_advise_96
  · have hf := ife_f hc hf
    refine g_aload_n X dX14_advise_49 rfl rfl ?_
    refine g_iload_n X dX14_advise_50 rfl rfl ?_
    refine g_iload_n X dX14_advise_51 rfl rfl ?_
    refine g_aload_n X dX14_advise_52 rfl rfl ?_
    obtain ⟨hT2, hf⟩ := ck_e hf
    refine g_get (ci := 12) (v := vR (mR M x0 13)) 13 X cdX14 i_X14_advise_X14 (by decide) k_X14_advise_f47 rfl dX14_advise_53 rfl hT2 rfl ?_
    obtain ⟨a3, ha3, hf⟩ := dr_e hf
    obtain ⟨hT4, hf⟩ := ck_e hf
    refine g_getN (ci := 10) (w := vR (mR M a3 10)) 10 X cdX12 i_X14_advise_X12 (by decide) (gNw X _ kn_X14_293) rfl dX14_advise_56 ha3 hT4 rfl ?_
    refine g_iload_n X dX14_advise_59 rfl rfl ?_
    obtain ⟨a5, ha5, hf⟩ := dr_e hf
    obtain ⟨hT6, hf⟩ := ck_e hf
    obtain ⟨hg7, hf⟩ := ck_e hf
    refine g_iald X dX14_advise_60 ha5 hT6 hg7 ?_
    refine g_iload X dX14_advise_61 rfl ?_
    obtain ⟨r8, M8, hq8, hf⟩ := bd_e hf
    refine g_callV (ci := 12) (b := x0) (As := [vI x1, vI x2, vI (mI M a5 x1.toNatClampNeg), vI x5]) (st := []) (v := some (vI r8)) (M1 := M8) X (m_X14_storeAs l hq8) (cwV 4 X.2.2.1 gX14_advise_X14_storeAs rfl rfl rfl (by decide +kernel) ⟨Nat.le_of_ble_eq_true rfl, Nat.le_of_ble_eq_true rfl⟩) rfl rfl rfl hT2 (by decide) rfl (Nat.le_of_ble_eq_true rfl) dX14_advise_63 ⟨by decide, by decide⟩ ?_
    refine g_istore (lv' := [(6, vI r8), (0, vR (some x0)), (1, vI x1), (2, vI x2), (3, vI x3), (4, vI x4), (5, vI x5)]) X dX14_advise_66 (by decide) rfl ?_
    refine g_iload_n X dX14_advise_68 rfl rfl ?_
    refine g_if_le (tgt := 82) X dX14_advise_69 (by decide) (fun hc => ?_) (fun hc => ?_)
    · have hf := ife_t hc hf
      refine g_sub (lvsub_of _ _ [1, 2, 3, 6, 0] rfl) ?_
      exact t_X14_advise_82 X hr _ _ _ _ _ _ _ hf hK
    · have hf := ife_f hc hf
      refine g_iload X dX14_advise_72 rfl ?_
      refine g_iload X dX14_advise_74 rfl ?_
      refine g_icmp_gt (tgt := 82) X dX14_advise_76 (by decide) (fun hc => ?_) (fun hc => ?_)
      · have hf := ife_t hc hf
        refine g_sub (lvsub_of _ _ [1, 2, 3, 6, 0] rfl) ?_
        exact t_X14_advise_82 X hr _ _ _ _ _ _ _ hf hK
      · have hf := ife_f hc hf
        refine g_goto (tgt := 89) X dX14_advise_79 (by decide) ?_
        refine g_sub (lvsub_of _ _ [1, 2, 3, 4, 5, 6] rfl) ?_
        exact t_X14_advise_89 X hr _ _ _ _ _ _ _ _ hf hK
set_option maxHeartbeats 4000000 in
set_option maxRecDepth 100000 in
theorem tl_X14_advise_43 (X : gX p s m args meth c D cy B (gSt Z B H0) RX14 cX14_advise wsX14_advise 7) (hr : meth.sig.returnType = (some .int)) {Q : State → Prop} : ∀ (M : gMem) (x0 : Nat) (x1 : Int32) (x2 : Int32) (x3 : Int32) (x4 : Int32) (x5 : Int32) (z : Int32 × gMem), lp_X14_advise_43 M x0 x1 x2 x3 x4 x5 = some z → (fun (r : Int32 × gMem) => Q = gMQ below D cy B H0 args s 0 0 (some (vI r.1)) r.2) z → gGo p l e rX14_advise s m args below meth c D cy B H0 7 0 0 Q 43 [(0, vR (some x0)), (1, vI x1), (2, vI x2), (3, vI x3), (4, vI x4), (5, vI x5)] [] M := by
  intro M x0 x1 x2 x3 x4 x5 z hf hK
  refine lp_ind (P := (fun (q : gMem × Int32 × Int32 × Int32) (z : Int32 × gMem) => (fun (r : Int32 × gMem) => Q = gMQ below D cy B H0 args s 0 0 (some (vI r.1)) r.2) z → gGo p l e rX14_advise s m args below meth c D cy B H0 7 0 0 Q 43 [(0, vR (some x0)), (1, vI x1), (2, vI x2), (3, vI q.2.1), (4, vI q.2.2.1), (5, vI q.2.2.2)] [] q.1)) (fun q z hq => ?_) _ _ hf hK
  intro hK
  obtain ⟨w, hw, hm⟩ := hq
  refine tb_X14_advise_43 X hr _ _ _ _ _ _ _ w hw ?_
  cases w with
  | inl a => exact hm hK
  | inr b => cases hm; exact hK
set_option maxHeartbeats 4000000 in
set_option maxRecDepth 100000 in
theorem t_X14_advise_0 (X : gX p s m args meth c D cy B (gSt Z B H0) RX14 cX14_advise wsX14_advise 7) (hr : meth.sig.returnType = (some .int)) {Q : State → Prop} : ∀ (M : gMem) (x0 : Nat) (x1 : Int32) (x2 : Int32) (z : Int32 × gMem), b_X14_advise_0 M x0 x1 x2 = some z → (fun (r : Int32 × gMem) => Q = gMQ below D cy B H0 args s 0 0 (some (vI r.1)) r.2) z → gGo p l e rX14_advise s m args below meth c D cy B H0 7 0 0 Q 0 [(0, vR (some x0)), (1, vI x1), (2, vI x2)] [] M := by
  intro M x0 x1 x2 z hf hK
  unfold b_X14_advise_0 at hf
  refine g_aload_n X dX14_advise_0 rfl rfl ?_
  refine g_iconst (v := (0 : Int32)) X dX14_advise_1 (by decide) ?_
  obtain ⟨hT9, hf⟩ := ck_e hf
  refine g_putI (ci := 12) 0 X cdX14 i_X14_advise_X14 (by decide) k_X14_advise_f57 rfl dX14_advise_2 rfl hT9 (Or.inl rfl) rfl rfl rfl ?_
  obtain ⟨M10, hM10, hf⟩ := lw_e hf
  rw [← hM10]
  have hT11 : mT M10 x0 = 13 := by rw [hM10]; exact hT9
  refine g_aload_n X dX14_advise_5 rfl rfl ?_
  refine g_iload_n X dX14_advise_6 rfl rfl ?_
  obtain ⟨r12, M12, hq12, hf⟩ := bd_e hf
  refine g_callV (ci := 12) (b := x0) (As := [vI x1]) (st := []) (v := some (vI r12)) (M1 := M12) X (m_X14_isFisher l hq12) (cwV 1 X.2.2.1 gX14_advise_X14_isFisher rfl rfl rfl (by decide +kernel) ⟨Nat.le_of_ble_eq_true rfl, Nat.le_of_ble_eq_true rfl⟩) rfl rfl rfl hT11 (by decide) rfl (Nat.le_of_ble_eq_true rfl) dX14_advise_7 ⟨by decide, by decide⟩ ?_
  refine g_if_ne (tgt := 19) X dX14_advise_10 (by decide) (fun hc => ?_) (fun hc => ?_)
  · have hf := ife_f hc hf
    refine g_iload_n X dX14_advise_19 rfl rfl ?_
    refine g_iconst (v := (1 : Int32)) X dX14_advise_20 (by decide) ?_
    refine g_bipush (v := (40 : Int32)) X dX14_advise_21 (by decide) ?_
    obtain ⟨r13, M13, hq13, hf⟩ := bd_e hf
    refine g_callS (As := [vI x2, vI (1 : Int32), vI (40 : Int32)]) (st := []) (v := some (vI r13)) (M1 := M13) X (m_X14_isIn l hq13) (va_cwS 3 X.2.2.1 gX14_advise_X14_isIn rfl rfl rfl (by decide +kernel) ⟨Nat.le_of_ble_eq_true rfl, Nat.le_of_ble_eq_true rfl⟩) rfl rfl (Nat.le_of_ble_eq_true rfl) dX14_advise_23 ⟨by decide, by decide⟩ ?_
    refine g_if_ne (tgt := 35) X dX14_advise_26 (by decide) (fun hc => ?_) (fun hc => ?_)
    · have hf := ife_f hc hf
      refine g_iconst (v := (0 : Int32)) X dX14_advise_35 (by decide) ?_
      refine g_istore_n (lv' := [(3, vI (0 : Int32)), (0, vR (some x0)), (1, vI x1), (2, vI x2)]) X dX14_advise_36 rfl (by decide) rfl ?_
      refine g_iconst (v := (0 : Int32)) X dX14_advise_37 (by decide) ?_
      refine g_istore (lv' := [(4, vI (0 : Int32)), (3, vI (0 : Int32)), (0, vR (some x0)), (1, vI x1), (2, vI x2)]) X dX14_advise_38 (by decide) rfl ?_
      refine g_iconst (v := (1 : Int32)) X dX14_advise_40 (by decide) ?_
      refine g_istore (lv' := [(5, vI (1 : Int32)), (4, vI (0 : Int32)), (3, vI (0 : Int32)), (0, vR (some x0)), (1, vI x1), (2, vI x2)]) X dX14_advise_41 (by decide) rfl ?_
      refine g_sub (lvsub_of _ _ [3, 4, 5, 2, 1, 0] rfl) ?_
      exact tl_X14_advise_43 X hr _ _ _ _ _ _ _ _ hf hK
    · have hf := ife_t hc hf
      refine g_aload_n X dX14_advise_29 rfl rfl ?_
      refine g_iconst (v := (2 : Int32)) X dX14_advise_30 (by decide) ?_
      obtain ⟨hT15, hf⟩ := ck_e hf
      obtain ⟨r14, M14, hq14, hf⟩ := bd_e hf
      refine g_callV (ci := 12) (b := x0) (As := [vI (2 : Int32)]) (st := []) (v := some (vI r14)) (M1 := M14) X (m_X14_no l hq14) (cwV 1 X.2.2.1 gX14_advise_X14_no rfl rfl rfl (by decide +kernel) ⟨Nat.le_of_ble_eq_true rfl, Nat.le_of_ble_eq_true rfl⟩) rfl rfl rfl hT15 (by decide) rfl (Nat.le_of_ble_eq_true rfl) dX14_advise_31 ⟨by decide, by decide⟩ ?_
      cases hf
      refine g_eqQ hK ?_
      exact g_iret X hr dX14_advise_34
  · have hf := ife_t hc hf
    refine g_aload_n X dX14_advise_13 rfl rfl ?_
    refine g_iconst (v := (1 : Int32)) X dX14_advise_14 (by decide) ?_
    obtain ⟨hT17, hf⟩ := ck_e hf
    obtain ⟨r16, M16, hq16, hf⟩ := bd_e hf
    refine g_callV (ci := 12) (b := x0) (As := [vI (1 : Int32)]) (st := []) (v := some (vI r16)) (M1 := M16) X (m_X14_no l hq16) (cwV 1 X.2.2.1 gX14_advise_X14_no rfl rfl rfl (by decide +kernel) ⟨Nat.le_of_ble_eq_true rfl, Nat.le_of_ble_eq_true rfl⟩) rfl rfl rfl hT17 (by decide) rfl (Nat.le_of_ble_eq_true rfl) dX14_advise_15 ⟨by decide, by decide⟩ ?_
    cases hf
    refine g_eqQ hK ?_
    exact g_iret X hr dX14_advise_18
set_option maxHeartbeats 4000000 in
set_option maxRecDepth 100000 in
theorem m_X14_advise (l : Launch) {D : va_G} {cy : Nat → ClassId} {B : Nat} {H0 : Heap} {Z : Nat → Nat} {M M1 : gMem} {x0 : Nat} {x1 : Int32} {x2 : Int32} {r : Int32} (hf : f_X14_advise M x0 x1 x2 = some (r, M1)) : Met l yX14_advise wsX14_advise rX14_advise (va_Pc (Value.ref x0 :: List.map gv [vI x1, vI x2]) (gPre D cy B H0 (gSt Z B H0) M)) (gQ D cy B H0 (some (vI r)) M1) 0 0 (gA B) := by
  refine Met.ofW (cc := cX14_advise) (maxL := 7) (ret := (some .int)) (by decide) rfl ?_
  intro p e s m args below meth c s₁ Bd hml hv
  obtain ⟨rfl, hW, hKK, hFs⟩ := hv
  have X : gX p s m _ meth c D cy B (gSt Z B H0) RX14 cX14_advise wsX14_advise 7 := ⟨Bd.exec, Bd.bytes, atoms_spec (ws := wsX14_advise) Bd.pre, findClass_of_methodNamed Bd.named, hml, hKK, by rw [hW.1]; exact hW.2.1, Bd.notSynchronized, hFs⟩
  have hr := Bd.returns
  have hl := lv_entry ([.ref x0, .int x1, .int x2]) (n := 7) (Nat.le_of_ble_eq_true rfl)
  show W p l e rX14_advise s m _ below meth c s.heap [] 0 0 _ (entryFrame m ([.ref x0, .int x1, .int x2] : List Value).toArray 7)
  rw [lg_entry_eq]
  generalize (lg_sl ([.ref x0, .int x1, .int x2]) ++ List.replicate (7 - (lg_sl ([.ref x0, .int x1, .int x2])).length) Slot.unset).toArray = ls at hl ⊢
  have hl : lv_has ls 7 (List.map gq [(0, vR (some x0)), (1, vI x1), (2, vI x2)]) := hl
  exact t_X14_advise_0 X hr _ _ _ _ _ hf rfl s.heap [] ls hW va_S.rf (lv_has_sub hl (lvsub_of _ _ [0, 1, 2] rfl))
end
