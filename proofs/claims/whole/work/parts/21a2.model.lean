section
variable {p : Program} {l : Launch} {e : Env} {s : State} {m : MethodId} {args : Array Value} {below : List Frame} {meth : Method} {c : Code} {D : va_G} {cy : Nat → ClassId} {B : Nat} {H0 : Heap} {Z : Nat → Nat}
/-! ## TideLotsModel.cut()V -/
theorem dX14_cut_0 : decode cX14_cut 0 = .ok (.iconst 0, 1) := by decide +kernel
theorem dX14_cut_1 : decode cX14_cut 1 = .ok (.istore_n 1, 1) := by decide +kernel
theorem dX14_cut_2 : decode cX14_cut 2 = .ok (.iconst 0, 1) := by decide +kernel
theorem dX14_cut_3 : decode cX14_cut 3 = .ok (.istore_n 2, 1) := by decide +kernel
theorem dX14_cut_4 : decode cX14_cut 4 = .ok (.iload_n 2, 1) := by decide +kernel
theorem dX14_cut_5 : decode cX14_cut 5 = .ok (.sipush 400, 3) := by decide +kernel
theorem dX14_cut_8 : decode cX14_cut 8 = .ok (.if_icmp .gt 118, 3) := by decide +kernel
theorem dX14_cut_11 : decode cX14_cut 11 = .ok (.aload_n 0, 1) := by decide +kernel
theorem dX14_cut_12 : decode cX14_cut 12 = .ok (.iload_n 1, 1) := by decide +kernel
theorem dX14_cut_13 : decode cX14_cut 13 = .ok (.invokevirtual 82, 3) := by decide +kernel
theorem dX14_cut_16 : decode cX14_cut 16 = .ok (.bipush 32, 2) := by decide +kernel
theorem dX14_cut_18 : decode cX14_cut 18 = .ok (.if_icmp .eq 13, 3) := by decide +kernel
theorem dX14_cut_21 : decode cX14_cut 21 = .ok (.aload_n 0, 1) := by decide +kernel
theorem dX14_cut_22 : decode cX14_cut 22 = .ok (.iload_n 1, 1) := by decide +kernel
theorem dX14_cut_23 : decode cX14_cut 23 = .ok (.invokevirtual 82, 3) := by decide +kernel
theorem dX14_cut_26 : decode cX14_cut 26 = .ok (.bipush 10, 2) := by decide +kernel
theorem dX14_cut_28 : decode cX14_cut 28 = .ok (.if_icmp .ne 9, 3) := by decide +kernel
theorem dX14_cut_31 : decode cX14_cut 31 = .ok (.iinc 1 1, 3) := by decide +kernel
theorem dX14_cut_34 : decode cX14_cut 34 = .ok (.goto (-23), 3) := by decide +kernel
theorem dX14_cut_37 : decode cX14_cut 37 = .ok (.aload_n 0, 1) := by decide +kernel
theorem dX14_cut_38 : decode cX14_cut 38 = .ok (.getfield 20, 3) := by decide +kernel
theorem dX14_cut_41 : decode cX14_cut 41 = .ok (.iload_n 2, 1) := by decide +kernel
theorem dX14_cut_42 : decode cX14_cut 42 = .ok (.iload_n 1, 1) := by decide +kernel
theorem dX14_cut_43 : decode cX14_cut 43 = .ok (.iastore, 1) := by decide +kernel
theorem dX14_cut_44 : decode cX14_cut 44 = .ok (.aload_n 0, 1) := by decide +kernel
theorem dX14_cut_45 : decode cX14_cut 45 = .ok (.getfield 26, 3) := by decide +kernel
theorem dX14_cut_48 : decode cX14_cut 48 = .ok (.iload_n 2, 1) := by decide +kernel
theorem dX14_cut_49 : decode cX14_cut 49 = .ok (.iconst 0, 1) := by decide +kernel
theorem dX14_cut_50 : decode cX14_cut 50 = .ok (.iastore, 1) := by decide +kernel
theorem dX14_cut_51 : decode cX14_cut 51 = .ok (.aload_n 0, 1) := by decide +kernel
theorem dX14_cut_52 : decode cX14_cut 52 = .ok (.getfield 29, 3) := by decide +kernel
theorem dX14_cut_55 : decode cX14_cut 55 = .ok (.iload_n 2, 1) := by decide +kernel
theorem dX14_cut_56 : decode cX14_cut 56 = .ok (.iconst 0, 1) := by decide +kernel
theorem dX14_cut_57 : decode cX14_cut 57 = .ok (.iastore, 1) := by decide +kernel
theorem dX14_cut_58 : decode cX14_cut 58 = .ok (.aload_n 0, 1) := by decide +kernel
theorem dX14_cut_59 : decode cX14_cut 59 = .ok (.getfield 17, 3) := by decide +kernel
theorem dX14_cut_62 : decode cX14_cut 62 = .ok (.iload_n 2, 1) := by decide +kernel
theorem dX14_cut_63 : decode cX14_cut 63 = .ok (.aload_n 0, 1) := by decide +kernel
theorem dX14_cut_64 : decode cX14_cut 64 = .ok (.iload_n 1, 1) := by decide +kernel
theorem dX14_cut_65 : decode cX14_cut 65 = .ok (.iload_n 2, 1) := by decide +kernel
theorem dX14_cut_66 : decode cX14_cut 66 = .ok (.invokevirtual 115, 3) := by decide +kernel
theorem dX14_cut_69 : decode cX14_cut 69 = .ok (.iastore, 1) := by decide +kernel
theorem dX14_cut_70 : decode cX14_cut 70 = .ok (.iload_n 2, 1) := by decide +kernel
theorem dX14_cut_71 : decode cX14_cut 71 = .ok (.sipush 400, 3) := by decide +kernel
theorem dX14_cut_74 : decode cX14_cut 74 = .ok (.if_icmp .ne 24, 3) := by decide +kernel
theorem dX14_cut_77 : decode cX14_cut 77 = .ok (.aload_n 0, 1) := by decide +kernel
theorem dX14_cut_78 : decode cX14_cut 78 = .ok (.getfield 17, 3) := by decide +kernel
theorem dX14_cut_81 : decode cX14_cut 81 = .ok (.iload_n 2, 1) := by decide +kernel
theorem dX14_cut_82 : decode cX14_cut 82 = .ok (.iaload, 1) := by decide +kernel
theorem dX14_cut_83 : decode cX14_cut 83 = .ok (.sipush 900, 3) := by decide +kernel
theorem dX14_cut_86 : decode cX14_cut 86 = .ok (.if_icmp .eq 12, 3) := by decide +kernel
theorem dX14_cut_89 : decode cX14_cut 89 = .ok (.aload_n 0, 1) := by decide +kernel
theorem dX14_cut_90 : decode cX14_cut 90 = .ok (.getfield 17, 3) := by decide +kernel
theorem dX14_cut_93 : decode cX14_cut 93 = .ok (.iload_n 2, 1) := by decide +kernel
theorem dX14_cut_94 : decode cX14_cut 94 = .ok (.sipush 901, 3) := by decide +kernel
theorem dX14_cut_97 : decode cX14_cut 97 = .ok (.iastore, 1) := by decide +kernel
theorem dX14_cut_98 : decode cX14_cut 98 = .ok (.aload_n 0, 1) := by decide +kernel
theorem dX14_cut_99 : decode cX14_cut 99 = .ok (.getfield 17, 3) := by decide +kernel
theorem dX14_cut_102 : decode cX14_cut 102 = .ok (.iload_n 2, 1) := by decide +kernel
theorem dX14_cut_103 : decode cX14_cut 103 = .ok (.iaload, 1) := by decide +kernel
theorem dX14_cut_104 : decode cX14_cut 104 = .ok (.sipush 900, 3) := by decide +kernel
theorem dX14_cut_107 : decode cX14_cut 107 = .ok (.if_icmp .lt 4, 3) := by decide +kernel
theorem dX14_cut_110 : decode cX14_cut 110 = .ok (.return_, 1) := by decide +kernel
theorem dX14_cut_111 : decode cX14_cut 111 = .ok (.iload_n 1, 1) := by decide +kernel
theorem dX14_cut_112 : decode cX14_cut 112 = .ok (.aload_n 0, 1) := by decide +kernel
theorem dX14_cut_113 : decode cX14_cut 113 = .ok (.getfield 23, 3) := by decide +kernel
theorem dX14_cut_116 : decode cX14_cut 116 = .ok (.iload_n 2, 1) := by decide +kernel
theorem dX14_cut_117 : decode cX14_cut 117 = .ok (.iaload, 1) := by decide +kernel
theorem dX14_cut_118 : decode cX14_cut 118 = .ok (.iadd, 1) := by decide +kernel
theorem dX14_cut_119 : decode cX14_cut 119 = .ok (.istore_n 1, 1) := by decide +kernel
theorem dX14_cut_120 : decode cX14_cut 120 = .ok (.iinc 2 1, 3) := by decide +kernel
theorem dX14_cut_123 : decode cX14_cut 123 = .ok (.goto (-119), 3) := by decide +kernel
theorem dX14_cut_126 : decode cX14_cut 126 = .ok (.return_, 1) := by decide +kernel
set_option maxRecDepth 20000 in
theorem ggX14_cut_X14_byteOf : GoodIn wsX14_cut wsX14_byteOf := goodIn_rr wsB_X14_cut_in _ [(1, 9), (1, 10), (1, 11), (7, 0), (7, 1), (7, 2), (7, 3), (7, 4), (7, 5), (7, 6), (7, 7), (7, 8), (7, 9), (7, 10), (7, 11), (7, 12), (7, 13), (7, 14)] (by decide +kernel) (by decide +kernel)
set_option maxRecDepth 20000 in
theorem gX14_cut_X14_byteOf : GoodIn wsX14_cut (wsV RX14 82 RX14 yX14_byteOf wsX14_byteOf) := goodIn_app (goodIn_rr wsB_X14_cut_in _ [(1, 5), (1, 6), (1, 7), (1, 8)] (by decide +kernel) (by decide +kernel)) ggX14_cut_X14_byteOf
set_option maxRecDepth 20000 in
theorem ggX14_cut_X14_kindAt : GoodIn wsX14_cut wsX14_kindAt := goodIn_2 24 (goodIn_rr wsB_X14_cut_in _ [(1, 15), (1, 4), (1, 5), (1, 6), (1, 7), (1, 8), (1, 9), (1, 10), (1, 11), (1, 16), (1, 17), (1, 18), (1, 19), (1, 20), (1, 21), (1, 22), (1, 23), (2, 0), (2, 1), (2, 2), (2, 3), (2, 4), (2, 5), (2, 6)] (by decide +kernel) (by decide +kernel)) (goodIn_2 24 (goodIn_rr wsB_X14_cut_in _ [(2, 7), (2, 8), (2, 9), (2, 10), (2, 11), (2, 12), (2, 13), (2, 14), (2, 15), (2, 16), (2, 17), (2, 18), (2, 19), (2, 20), (2, 21), (2, 22), (2, 23), (3, 0), (3, 1), (3, 2), (3, 3), (3, 4), (3, 5), (3, 6)] (by decide +kernel) (by decide +kernel)) (goodIn_2 24 (goodIn_rr wsB_X14_cut_in _ [(3, 7), (3, 8), (3, 9), (3, 10), (3, 11), (3, 12), (3, 13), (3, 14), (3, 15), (3, 16), (3, 17), (3, 18), (3, 19), (3, 20), (3, 21), (3, 22), (3, 23), (4, 0), (4, 1), (4, 2), (4, 3), (4, 4), (4, 5), (4, 6)] (by decide +kernel) (by decide +kernel)) (goodIn_2 24 (goodIn_rr wsB_X14_cut_in _ [(4, 7), (4, 8), (4, 9), (4, 10), (4, 11), (4, 12), (4, 13), (4, 14), (4, 15), (4, 16), (4, 17), (4, 18), (4, 19), (4, 20), (4, 21), (4, 22), (4, 23), (5, 0), (5, 1), (5, 2), (5, 3), (5, 4), (5, 5), (5, 6)] (by decide +kernel) (by decide +kernel)) (goodIn_2 24 (goodIn_rr wsB_X14_cut_in _ [(5, 7), (5, 8), (5, 9), (5, 10), (5, 11), (5, 12), (5, 13), (5, 14), (5, 15), (5, 16), (5, 17), (5, 18), (5, 19), (5, 20), (5, 21), (5, 22), (5, 23), (6, 0), (6, 1), (6, 2), (6, 3), (6, 4), (6, 5), (6, 6)] (by decide +kernel) (by decide +kernel)) (goodIn_2 24 (goodIn_rr wsB_X14_cut_in _ [(6, 7), (6, 8), (6, 9), (6, 10), (6, 11), (6, 12), (6, 13), (6, 14), (6, 15), (6, 16), (7, 0), (7, 1), (7, 2), (7, 3), (7, 4), (7, 5), (7, 6), (7, 7), (7, 8), (7, 9), (7, 10), (7, 11), (7, 12), (7, 13)] (by decide +kernel) (by decide +kernel)) (goodIn_rr wsB_X14_cut_in _ [(7, 14)] (by decide +kernel) (by decide +kernel)))))))
set_option maxRecDepth 20000 in
theorem gX14_cut_X14_kindAt : GoodIn wsX14_cut (wsV RX14 115 RX14 yX14_kindAt wsX14_kindAt) := goodIn_app (goodIn_rr wsB_X14_cut_in _ [(1, 12), (1, 13), (1, 14), (1, 8)] (by decide +kernel) (by decide +kernel)) ggX14_cut_X14_kindAt
theorem k_X14_cut_f17 : Cond.fieldLink RX14 17 "TideLotsModel" "kind" "[I" ∈ wsX14_cut := by decide +kernel
theorem i_X14_cut_X14 : ∀ w ∈ u_ws RX14 TX14 15, w ∈ wsX14_cut := by decide +kernel
theorem k_X14_cut_f23 : Cond.fieldLink RX14 23 "TideLotsModel" "many" "[I" ∈ wsX14_cut := by decide +kernel
theorem k_X14_cut_f20 : Cond.fieldLink RX14 20 "TideLotsModel" "from" "[I" ∈ wsX14_cut := by decide +kernel
theorem k_X14_cut_f26 : Cond.fieldLink RX14 26 "TideLotsModel" "role" "[I" ∈ wsX14_cut := by decide +kernel
theorem k_X14_cut_f29 : Cond.fieldLink RX14 29 "TideLotsModel" "meant" "[I" ∈ wsX14_cut := by decide +kernel
abbrev rX14_cut : Room := { frames := 6, cells := 0, slots := 0, locals := 135 }
noncomputable def b_X14_cut_98 (Z : Nat → Nat) (M : gMem) (x0 : Nat) (x1 : Int32) (x2 : Int32) : Option ((gMem × Int32 × Int32) ⊕ (Unit × gMem)) :=
  ck (mT M x0 = 13) <| dr ((mR M x0 4)) fun a2 => ck (mT M a2 = 20) <| ck (inb x2 (mL M a2)) <| (if (mI M a2 x2.toNatClampNeg) < (900 : Int32) then dr ((mR M x0 6)) fun a5 => ck (mT M a5 = 20) <| ck (inb x2 (mL M a5)) <| some (.inl (M, (x1 + (mI M a5 x2.toNatClampNeg)), (x2 + (1 : Int32)))) else oI (some ((), M)))
noncomputable def b_X14_cut_31 (Z : Nat → Nat) (M : gMem) (x0 : Nat) (x1 : Int32) (x2 : Int32) : Option ((gMem × Int32) ⊕ ((gMem × Int32 × Int32) ⊕ (Unit × gMem))) :=
  some (.inl (M, (x1 + (1 : Int32))))
noncomputable def bb_X14_cut_11 (Z : Nat → Nat) (M : gMem) (x0 : Nat) (x1 : Int32) (x2 : Int32) : Option ((gMem × Int32) ⊕ ((gMem × Int32 × Int32) ⊕ (Unit × gMem))) :=
  ck (mT M x0 = 13) <| bd (f_X14_byteOf M x0 x1) fun r9 M9 => (if r9 = (32 : Int32) then b_X14_cut_31 Z M9 x0 x1 x2 else ck (mT M9 x0 = 13) <| bd (f_X14_byteOf M9 x0 x1) fun r11 M11 => (if r11 = (10 : Int32) then b_X14_cut_31 Z M11 x0 x1 x2 else ck (mT M11 x0 = 13) <| dr ((mR M11 x0 5)) fun a14 => ck (mT M11 a14 = 20) <| ck (inb x2 (mL M11 a14)) <| lw (wI M11 a14 x2.toNatClampNeg x1) fun M17 => dr ((mR M17 x0 7)) fun a20 => ck (mT M17 a20 = 20) <| ck (inb x2 (mL M17 a20)) <| lw (wI M17 a20 x2.toNatClampNeg ((0 : Int32))) fun M23 => dr ((mR M23 x0 8)) fun a27 => ck (mT M23 a27 = 20) <| ck (inb x2 (mL M23 a27)) <| lw (wI M23 a27 x2.toNatClampNeg ((0 : Int32))) fun M30 => bd (f_X14_kindAt Z M30 x0 x1 x2) fun r35 M35 => dr ((mR M30 x0 4)) fun a36 => ck (mT M35 a36 = 20) <| ck (inb x2 (mL M35 a36)) <| lw (wI M35 a36 x2.toNatClampNeg r35) fun M39 => (if x2 = (400 : Int32) then ck (mT M39 x0 = 13) <| dr ((mR M39 x0 4)) fun a43 => ck (mT M39 a43 = 20) <| ck (inb x2 (mL M39 a43)) <| (if (mI M39 a43 x2.toNatClampNeg) = (900 : Int32) then oI (b_X14_cut_98 Z M39 x0 x1 x2) else ck (inb x2 (mL M39 a43)) <| lw (wI M39 a43 x2.toNatClampNeg ((901 : Int32))) fun M48 => oI (b_X14_cut_98 Z M48 x0 x1 x2)) else oI (b_X14_cut_98 Z M39 x0 x1 x2))))
noncomputable def lp_X14_cut_11 (Z : Nat → Nat) (M : gMem) (x0 : Nat) (x1 : Int32) (x2 : Int32) : Option ((gMem × Int32 × Int32) ⊕ (Unit × gMem)) :=
  lp (fun (q : gMem × Int32) => bb_X14_cut_11 Z q.1 x0 q.2 x2) (M, x1)
noncomputable def bb_X14_cut_4 (Z : Nat → Nat) (M : gMem) (x0 : Nat) (x1 : Int32) (x2 : Int32) : Option ((gMem × Int32 × Int32) ⊕ (Unit × gMem)) :=
  (if (400 : Int32) < x2 then oI (some ((), M)) else lp_X14_cut_11 Z M x0 x1 x2)
noncomputable def lp_X14_cut_4 (Z : Nat → Nat) (M : gMem) (x0 : Nat) (x1 : Int32) (x2 : Int32) : Option (Unit × gMem) :=
  lp (fun (q : gMem × Int32 × Int32) => bb_X14_cut_4 Z q.1 x0 q.2.1 q.2.2) (M, x1, x2)
noncomputable def b_X14_cut_0 (Z : Nat → Nat) (M : gMem) (x0 : Nat) : Option (Unit × gMem) :=
  lp_X14_cut_4 Z M x0 ((0 : Int32)) ((0 : Int32))
noncomputable def f_X14_cut (Z : Nat → Nat) (M : gMem) (x0 : Nat) : Option (Unit × gMem) :=
  b_X14_cut_0 Z M x0
set_option maxHeartbeats 4000000 in
set_option maxRecDepth 100000 in
theorem t_X14_cut_98 (X2 : gX p s m args meth c D cy B (gSt2 Z B H0) RX14 cX14_cut wsX14_cut 3) (hr : meth.sig.returnType = none) {Q : State → Prop} : ∀ (M : gMem) (x0 : Nat) (x1 : Int32) (x2 : Int32) (z : (gMem × Int32 × Int32) ⊕ (Unit × gMem)), b_X14_cut_98 Z M x0 x1 x2 = some z → (Sum.elim (fun (q : gMem × Int32 × Int32) => gGo p l e rX14_cut s m args below meth c D cy B H0 3 0 0 Q 4 [(0, vR (some x0)), (1, vI q.2.1), (2, vI q.2.2)] [] q.1) (fun (r : Unit × gMem) => Q = gMQ below D cy B H0 args s 0 0 none r.2)) z → gGo p l e rX14_cut s m args below meth c D cy B H0 3 0 0 Q 98 [(0, vR (some x0)), (1, vI x1), (2, vI x2)] [] M := by
  intro M x0 x1 x2 z hf hK
  unfold b_X14_cut_98 at hf
  have X := gX_w X2
  refine g_aload_n X dX14_cut_98 rfl rfl ?_
  obtain ⟨hT1, hf⟩ := ck_e hf
  refine g_get (ci := 12) (v := vR (mR M x0 4)) 4 X cdX14 i_X14_cut_X14 (by decide) k_X14_cut_f17 rfl dX14_cut_99 rfl hT1 rfl ?_
  refine g_iload_n X dX14_cut_102 rfl rfl ?_
  obtain ⟨a2, ha2, hf⟩ := dr_e hf
  obtain ⟨hT3, hf⟩ := ck_e hf
  obtain ⟨hg4, hf⟩ := ck_e hf
  refine g_iald X dX14_cut_103 ha2 hT3 hg4 ?_
  refine g_sipush (v := (900 : Int32)) X dX14_cut_104 (by decide) ?_
  refine g_icmp_lt (tgt := 111) X dX14_cut_107 (by decide) (fun hc => ?_) (fun hc => ?_)
  · have hf := ife_t hc hf
    refine g_iload_n X dX14_cut_111 rfl rfl ?_
    refine g_aload_n X dX14_cut_112 rfl rfl ?_
    refine g_get (ci := 12) (v := vR (mR M x0 6)) 6 X cdX14 i_X14_cut_X14 (by decide) k_X14_cut_f23 rfl dX14_cut_113 rfl hT1 rfl ?_
    refine g_iload_n X dX14_cut_116 rfl rfl ?_
    obtain ⟨a5, ha5, hf⟩ := dr_e hf
    obtain ⟨hT6, hf⟩ := ck_e hf
    obtain ⟨hg7, hf⟩ := ck_e hf
    refine g_iald X dX14_cut_117 ha5 hT6 hg7 ?_
    refine g_iadd X dX14_cut_118 ?_
    refine g_istore_n (lv' := [(1, vI (x1 + (mI M a5 x2.toNatClampNeg))), (0, vR (some x0)), (2, vI x2)]) X dX14_cut_119 rfl (by decide) rfl ?_
    refine g_iinc (v := (1 : Int32)) (lv' := [(2, vI (x2 + (1 : Int32))), (1, vI (x1 + (mI M a5 x2.toNatClampNeg))), (0, vR (some x0))]) X dX14_cut_120 rfl (by decide) (by decide) rfl ?_
    refine g_goto (tgt := 4) X dX14_cut_123 (by decide) ?_
    cases hf
    refine g_sub (lvsub_of _ _ [2, 1, 0] rfl) ?_
    exact hK
  · have hf := ife_f hc hf
    obtain ⟨w8, hw8, hz8⟩ := oI_e hf
    subst hz8
    have hf := hw8
    cases hf
    refine g_eqQ hK ?_
    exact g_vret X hr dX14_cut_110
set_option maxHeartbeats 4000000 in
set_option maxRecDepth 100000 in
theorem t_X14_cut_31 (X2 : gX p s m args meth c D cy B (gSt2 Z B H0) RX14 cX14_cut wsX14_cut 3) (hr : meth.sig.returnType = none) {Q : State → Prop} : ∀ (M : gMem) (x0 : Nat) (x1 : Int32) (x2 : Int32) (z : (gMem × Int32) ⊕ ((gMem × Int32 × Int32) ⊕ (Unit × gMem))), b_X14_cut_31 Z M x0 x1 x2 = some z → (Sum.elim (fun (q : gMem × Int32) => gGo p l e rX14_cut s m args below meth c D cy B H0 3 0 0 Q 11 [(0, vR (some x0)), (1, vI q.2), (2, vI x2)] [] q.1) (Sum.elim (fun (q : gMem × Int32 × Int32) => gGo p l e rX14_cut s m args below meth c D cy B H0 3 0 0 Q 4 [(0, vR (some x0)), (1, vI q.2.1), (2, vI q.2.2)] [] q.1) (fun (r : Unit × gMem) => Q = gMQ below D cy B H0 args s 0 0 none r.2))) z → gGo p l e rX14_cut s m args below meth c D cy B H0 3 0 0 Q 31 [(0, vR (some x0)), (1, vI x1), (2, vI x2)] [] M := by
  intro M x0 x1 x2 z hf hK
  unfold b_X14_cut_31 at hf
  have X := gX_w X2
  refine g_iinc (v := (1 : Int32)) (lv' := [(1, vI (x1 + (1 : Int32))), (0, vR (some x0)), (2, vI x2)]) X dX14_cut_31 rfl (by decide) (by decide) rfl ?_
  refine g_goto (tgt := 11) X dX14_cut_34 (by decide) ?_
  cases hf
  refine g_sub (lvsub_of _ _ [1, 0, 2] rfl) ?_
  exact hK
set_option maxHeartbeats 4000000 in
set_option maxRecDepth 100000 in
theorem tb_X14_cut_11 (X2 : gX p s m args meth c D cy B (gSt2 Z B H0) RX14 cX14_cut wsX14_cut 3) (hr : meth.sig.returnType = none) {Q : State → Prop} : ∀ (M : gMem) (x0 : Nat) (x1 : Int32) (x2 : Int32) (z : (gMem × Int32) ⊕ ((gMem × Int32 × Int32) ⊕ (Unit × gMem))), bb_X14_cut_11 Z M x0 x1 x2 = some z → (Sum.elim (fun (q : gMem × Int32) => gGo p l e rX14_cut s m args below meth c D cy B H0 3 0 0 Q 11 [(0, vR (some x0)), (1, vI q.2), (2, vI x2)] [] q.1) (Sum.elim (fun (q : gMem × Int32 × Int32) => gGo p l e rX14_cut s m args below meth c D cy B H0 3 0 0 Q 4 [(0, vR (some x0)), (1, vI q.2.1), (2, vI q.2.2)] [] q.1) (fun (r : Unit × gMem) => Q = gMQ below D cy B H0 args s 0 0 none r.2))) z → gGo p l e rX14_cut s m args below meth c D cy B H0 3 0 0 Q 11 [(0, vR (some x0)), (1, vI x1), (2, vI x2)] [] M := by
  intro M x0 x1 x2 z hf hK
  unfold bb_X14_cut_11 at hf
  have X := gX_w X2
  refine g_aload_n X dX14_cut_11 rfl rfl ?_
  refine g_iload_n X dX14_cut_12 rfl rfl ?_
  obtain ⟨hT10, hf⟩ := ck_e hf
  obtain ⟨r9, M9, hq9, hf⟩ := bd_e hf
  refine g_callV (ci := 12) (b := x0) (As := [vI x1]) (st := []) (v := some (vI r9)) (M1 := M9) X (m_X14_byteOf l hq9) (cwV 1 X.2.2.1 gX14_cut_X14_byteOf rfl rfl rfl (by decide +kernel) ⟨Nat.le_of_ble_eq_true rfl, Nat.le_of_ble_eq_true rfl⟩) rfl rfl rfl hT10 (by decide) rfl (Nat.le_of_ble_eq_true rfl) dX14_cut_13 ⟨by decide, by decide⟩ ?_
  refine g_bipush (v := (32 : Int32)) X dX14_cut_16 (by decide) ?_
  refine g_icmp_eq (tgt := 31) X dX14_cut_18 (by decide) (fun hc => ?_) (fun hc => ?_)
  · have hf := ife_t hc hf
    refine g_sub (lvsub_of _ _ [0, 1, 2] rfl) ?_
    exact t_X14_cut_31 X2 hr _ _ _ _ _ hf hK
  · have hf := ife_f hc hf
    refine g_aload_n X dX14_cut_21 rfl rfl ?_
    refine g_iload_n X dX14_cut_22 rfl rfl ?_
    obtain ⟨hT12, hf⟩ := ck_e hf
    obtain ⟨r11, M11, hq11, hf⟩ := bd_e hf
    refine g_callV (ci := 12) (b := x0) (As := [vI x1]) (st := []) (v := some (vI r11)) (M1 := M11) X (m_X14_byteOf l hq11) (cwV 1 X.2.2.1 gX14_cut_X14_byteOf rfl rfl rfl (by decide +kernel) ⟨Nat.le_of_ble_eq_true rfl, Nat.le_of_ble_eq_true rfl⟩) rfl rfl rfl hT12 (by decide) rfl (Nat.le_of_ble_eq_true rfl) dX14_cut_23 ⟨by decide, by decide⟩ ?_
    refine g_bipush (v := (10 : Int32)) X dX14_cut_26 (by decide) ?_
    refine g_icmp_ne (tgt := 37) X dX14_cut_28 (by decide) (fun hc => ?_) (fun hc => ?_)
    · have hf := ife_f hc hf
      refine g_aload_n X dX14_cut_37 rfl rfl ?_
      obtain ⟨hT13, hf⟩ := ck_e hf
      refine g_get (ci := 12) (v := vR (mR M11 x0 5)) 5 X cdX14 i_X14_cut_X14 (by decide) k_X14_cut_f20 rfl dX14_cut_38 rfl hT13 rfl ?_
      refine g_iload_n X dX14_cut_41 rfl rfl ?_
      refine g_iload_n X dX14_cut_42 rfl rfl ?_
      obtain ⟨a14, ha14, hf⟩ := dr_e hf
      obtain ⟨hT15, hf⟩ := ck_e hf
      obtain ⟨hg16, hf⟩ := ck_e hf
      refine g_iast X dX14_cut_43 ha14 hT15 hg16 ?_
      obtain ⟨M17, hM17, hf⟩ := lw_e hf
      rw [← hM17]
      have hT18 : mT M17 x0 = 13 := by rw [hM17]; exact hT13
      have hT19 : mT M17 a14 = 20 := by rw [hM17]; exact hT15
      refine g_aload_n X dX14_cut_44 rfl rfl ?_
      refine g_get (ci := 12) (v := vR (mR M17 x0 7)) 7 X cdX14 i_X14_cut_X14 (by decide) k_X14_cut_f26 rfl dX14_cut_45 rfl hT18 rfl ?_
      refine g_iload_n X dX14_cut_48 rfl rfl ?_
      refine g_iconst (v := (0 : Int32)) X dX14_cut_49 (by decide) ?_
      obtain ⟨a20, ha20, hf⟩ := dr_e hf
      obtain ⟨hT21, hf⟩ := ck_e hf
      obtain ⟨hg22, hf⟩ := ck_e hf
      refine g_iast X dX14_cut_50 ha20 hT21 hg22 ?_
      obtain ⟨M23, hM23, hf⟩ := lw_e hf
      rw [← hM23]
      have hT24 : mT M23 x0 = 13 := by rw [hM23]; exact hT18
      have hT25 : mT M23 a14 = 20 := by rw [hM23]; exact hT19
      have hT26 : mT M23 a20 = 20 := by rw [hM23]; exact hT21
      refine g_aload_n X dX14_cut_51 rfl rfl ?_
      refine g_get (ci := 12) (v := vR (mR M23 x0 8)) 8 X cdX14 i_X14_cut_X14 (by decide) k_X14_cut_f29 rfl dX14_cut_52 rfl hT24 rfl ?_
      refine g_iload_n X dX14_cut_55 rfl rfl ?_
      refine g_iconst (v := (0 : Int32)) X dX14_cut_56 (by decide) ?_
      obtain ⟨a27, ha27, hf⟩ := dr_e hf
      obtain ⟨hT28, hf⟩ := ck_e hf
      obtain ⟨hg29, hf⟩ := ck_e hf
      refine g_iast X dX14_cut_57 ha27 hT28 hg29 ?_
      obtain ⟨M30, hM30, hf⟩ := lw_e hf
      rw [← hM30]
      have hT31 : mT M30 x0 = 13 := by rw [hM30]; exact hT24
      have hT32 : mT M30 a14 = 20 := by rw [hM30]; exact hT25
      have hT33 : mT M30 a20 = 20 := by rw [hM30]; exact hT26
      have hT34 : mT M30 a27 = 20 := by rw [hM30]; exact hT28
      refine g_aload_n X dX14_cut_58 rfl rfl ?_
      refine g_get (ci := 12) (v := vR (mR M30 x0 4)) 4 X cdX14 i_X14_cut_X14 (by decide) k_X14_cut_f17 rfl dX14_cut_59 rfl hT31 rfl ?_
      refine g_iload_n X dX14_cut_62 rfl rfl ?_
      refine g_aload_n X dX14_cut_63 rfl rfl ?_
      refine g_iload_n X dX14_cut_64 rfl rfl ?_
      refine g_iload_n X dX14_cut_65 rfl rfl ?_
      obtain ⟨r35, M35, hq35, hf⟩ := bd_e hf
      refine g_callV (ci := 12) (b := x0) (As := [vI x1, vI x2]) (st := [vI x2, vR (mR M30 x0 4)]) (v := some (vI r35)) (M1 := M35) X2 (m_X14_kindAt l hq35) (cwV 2 X.2.2.1 gX14_cut_X14_kindAt rfl rfl rfl (by decide +kernel) ⟨Nat.le_of_ble_eq_true rfl, Nat.le_of_ble_eq_true rfl⟩) rfl rfl rfl hT31 (by decide) rfl (Nat.le_of_ble_eq_true rfl) dX14_cut_66 ⟨by decide, by decide⟩ ?_
      obtain ⟨a36, ha36, hf⟩ := dr_e hf
      obtain ⟨hT37, hf⟩ := ck_e hf
      obtain ⟨hg38, hf⟩ := ck_e hf
      refine g_iast X dX14_cut_69 ha36 hT37 hg38 ?_
      obtain ⟨M39, hM39, hf⟩ := lw_e hf
      rw [← hM39]
      have hT40 : mT M39 a36 = 20 := by rw [hM39]; exact hT37
      refine g_iload_n X dX14_cut_70 rfl rfl ?_
      refine g_sipush (v := (400 : Int32)) X dX14_cut_71 (by decide) ?_
      refine g_icmp_ne (tgt := 98) X dX14_cut_74 (by decide) (fun hc => ?_) (fun hc => ?_)
      · have hf := ife_f hc hf
        obtain ⟨w41, hw41, hz41⟩ := oI_e hf
        subst hz41
        have hf := hw41
        refine g_sub (lvsub_of _ _ [0, 1, 2] rfl) ?_
        exact t_X14_cut_98 X2 hr _ _ _ _ _ hf hK
      · have hf := ife_t hc hf
        refine g_aload_n X dX14_cut_77 rfl rfl ?_
        obtain ⟨hT42, hf⟩ := ck_e hf
        refine g_get (ci := 12) (v := vR (mR M39 x0 4)) 4 X cdX14 i_X14_cut_X14 (by decide) k_X14_cut_f17 rfl dX14_cut_78 rfl hT42 rfl ?_
        refine g_iload_n X dX14_cut_81 rfl rfl ?_
        obtain ⟨a43, ha43, hf⟩ := dr_e hf
        obtain ⟨hT44, hf⟩ := ck_e hf
        obtain ⟨hg45, hf⟩ := ck_e hf
        refine g_iald X dX14_cut_82 ha43 hT44 hg45 ?_
        refine g_sipush (v := (900 : Int32)) X dX14_cut_83 (by decide) ?_
        refine g_icmp_eq (tgt := 98) X dX14_cut_86 (by decide) (fun hc => ?_) (fun hc => ?_)
        · have hf := ife_t hc hf
          obtain ⟨w46, hw46, hz46⟩ := oI_e hf
          subst hz46
          have hf := hw46
          refine g_sub (lvsub_of _ _ [0, 1, 2] rfl) ?_
          exact t_X14_cut_98 X2 hr _ _ _ _ _ hf hK
        · have hf := ife_f hc hf
          refine g_aload_n X dX14_cut_89 rfl rfl ?_
          refine g_get (ci := 12) (v := vR (mR M39 x0 4)) 4 X cdX14 i_X14_cut_X14 (by decide) k_X14_cut_f17 rfl dX14_cut_90 rfl hT42 rfl ?_
          refine g_iload_n X dX14_cut_93 rfl rfl ?_
          refine g_sipush (v := (901 : Int32)) X dX14_cut_94 (by decide) ?_
          obtain ⟨hg47, hf⟩ := ck_e hf
          refine g_iast X dX14_cut_97 ha43 hT44 hg47 ?_
          obtain ⟨M48, hM48, hf⟩ := lw_e hf
          rw [← hM48]
          have hT49 : mT M48 a36 = 20 := by rw [hM48]; exact hT40
          have hT50 : mT M48 x0 = 13 := by rw [hM48]; exact hT42
          have hT51 : mT M48 a43 = 20 := by rw [hM48]; exact hT44
          obtain ⟨w52, hw52, hz52⟩ := oI_e hf
          subst hz52
          have hf := hw52
          refine g_sub (lvsub_of _ _ [0, 1, 2] rfl) ?_
          exact t_X14_cut_98 X2 hr _ _ _ _ _ hf hK
    · have hf := ife_t hc hf
      refine g_sub (lvsub_of _ _ [0, 1, 2] rfl) ?_
      exact t_X14_cut_31 X2 hr _ _ _ _ _ hf hK
set_option maxHeartbeats 4000000 in
set_option maxRecDepth 100000 in
theorem tl_X14_cut_11 (X2 : gX p s m args meth c D cy B (gSt2 Z B H0) RX14 cX14_cut wsX14_cut 3) (hr : meth.sig.returnType = none) {Q : State → Prop} : ∀ (M : gMem) (x0 : Nat) (x1 : Int32) (x2 : Int32) (z : (gMem × Int32 × Int32) ⊕ (Unit × gMem)), lp_X14_cut_11 Z M x0 x1 x2 = some z → (Sum.elim (fun (q : gMem × Int32 × Int32) => gGo p l e rX14_cut s m args below meth c D cy B H0 3 0 0 Q 4 [(0, vR (some x0)), (1, vI q.2.1), (2, vI q.2.2)] [] q.1) (fun (r : Unit × gMem) => Q = gMQ below D cy B H0 args s 0 0 none r.2)) z → gGo p l e rX14_cut s m args below meth c D cy B H0 3 0 0 Q 11 [(0, vR (some x0)), (1, vI x1), (2, vI x2)] [] M := by
  intro M x0 x1 x2 z hf hK
  refine lp_ind (P := (fun (q : gMem × Int32) (z : (gMem × Int32 × Int32) ⊕ (Unit × gMem)) => (Sum.elim (fun (q : gMem × Int32 × Int32) => gGo p l e rX14_cut s m args below meth c D cy B H0 3 0 0 Q 4 [(0, vR (some x0)), (1, vI q.2.1), (2, vI q.2.2)] [] q.1) (fun (r : Unit × gMem) => Q = gMQ below D cy B H0 args s 0 0 none r.2)) z → gGo p l e rX14_cut s m args below meth c D cy B H0 3 0 0 Q 11 [(0, vR (some x0)), (1, vI q.2), (2, vI x2)] [] q.1)) (fun q z hq => ?_) _ _ hf hK
  intro hK
  obtain ⟨w, hw, hm⟩ := hq
  refine tb_X14_cut_11 X2 hr _ _ _ _ w hw ?_
  cases w with
  | inl a => exact hm hK
  | inr b => cases hm; exact hK
set_option maxHeartbeats 4000000 in
set_option maxRecDepth 100000 in
theorem tb_X14_cut_4 (X2 : gX p s m args meth c D cy B (gSt2 Z B H0) RX14 cX14_cut wsX14_cut 3) (hr : meth.sig.returnType = none) {Q : State → Prop} : ∀ (M : gMem) (x0 : Nat) (x1 : Int32) (x2 : Int32) (z : (gMem × Int32 × Int32) ⊕ (Unit × gMem)), bb_X14_cut_4 Z M x0 x1 x2 = some z → (Sum.elim (fun (q : gMem × Int32 × Int32) => gGo p l e rX14_cut s m args below meth c D cy B H0 3 0 0 Q 4 [(0, vR (some x0)), (1, vI q.2.1), (2, vI q.2.2)] [] q.1) (fun (r : Unit × gMem) => Q = gMQ below D cy B H0 args s 0 0 none r.2)) z → gGo p l e rX14_cut s m args below meth c D cy B H0 3 0 0 Q 4 [(0, vR (some x0)), (1, vI x1), (2, vI x2)] [] M := by
  intro M x0 x1 x2 z hf hK
  unfold bb_X14_cut_4 at hf
  have X := gX_w X2
  refine g_iload_n X dX14_cut_4 rfl rfl ?_
  refine g_sipush (v := (400 : Int32)) X dX14_cut_5 (by decide) ?_
  refine g_icmp_gt (tgt := 126) X dX14_cut_8 (by decide) (fun hc => ?_) (fun hc => ?_)
  · have hf := ife_t hc hf
    obtain ⟨w53, hw53, hz53⟩ := oI_e hf
    subst hz53
    have hf := hw53
    cases hf
    refine g_eqQ hK ?_
    exact g_vret X hr dX14_cut_126
  · have hf := ife_f hc hf
    refine g_sub (lvsub_of _ _ [0, 1, 2] rfl) ?_
    exact tl_X14_cut_11 X2 hr _ _ _ _ _ hf hK
set_option maxHeartbeats 4000000 in
set_option maxRecDepth 100000 in
theorem tl_X14_cut_4 (X2 : gX p s m args meth c D cy B (gSt2 Z B H0) RX14 cX14_cut wsX14_cut 3) (hr : meth.sig.returnType = none) {Q : State → Prop} : ∀ (M : gMem) (x0 : Nat) (x1 : Int32) (x2 : Int32) (z : Unit × gMem), lp_X14_cut_4 Z M x0 x1 x2 = some z → (fun (r : Unit × gMem) => Q = gMQ below D cy B H0 args s 0 0 none r.2) z → gGo p l e rX14_cut s m args below meth c D cy B H0 3 0 0 Q 4 [(0, vR (some x0)), (1, vI x1), (2, vI x2)] [] M := by
  intro M x0 x1 x2 z hf hK
  refine lp_ind (P := (fun (q : gMem × Int32 × Int32) (z : Unit × gMem) => (fun (r : Unit × gMem) => Q = gMQ below D cy B H0 args s 0 0 none r.2) z → gGo p l e rX14_cut s m args below meth c D cy B H0 3 0 0 Q 4 [(0, vR (some x0)), (1, vI q.2.1), (2, vI q.2.2)] [] q.1)) (fun q z hq => ?_) _ _ hf hK
  intro hK
  obtain ⟨w, hw, hm⟩ := hq
  refine tb_X14_cut_4 X2 hr _ _ _ _ w hw ?_
  cases w with
  | inl a => exact hm hK
  | inr b => cases hm; exact hK
set_option maxHeartbeats 4000000 in
set_option maxRecDepth 100000 in
theorem t_X14_cut_0 (X2 : gX p s m args meth c D cy B (gSt2 Z B H0) RX14 cX14_cut wsX14_cut 3) (hr : meth.sig.returnType = none) {Q : State → Prop} : ∀ (M : gMem) (x0 : Nat) (z : Unit × gMem), b_X14_cut_0 Z M x0 = some z → (fun (r : Unit × gMem) => Q = gMQ below D cy B H0 args s 0 0 none r.2) z → gGo p l e rX14_cut s m args below meth c D cy B H0 3 0 0 Q 0 [(0, vR (some x0))] [] M := by
  intro M x0 z hf hK
  unfold b_X14_cut_0 at hf
  have X := gX_w X2
  refine g_iconst (v := (0 : Int32)) X dX14_cut_0 (by decide) ?_
  refine g_istore_n (lv' := [(1, vI (0 : Int32)), (0, vR (some x0))]) X dX14_cut_1 rfl (by decide) rfl ?_
  refine g_iconst (v := (0 : Int32)) X dX14_cut_2 (by decide) ?_
  refine g_istore_n (lv' := [(2, vI (0 : Int32)), (1, vI (0 : Int32)), (0, vR (some x0))]) X dX14_cut_3 rfl (by decide) rfl ?_
  refine g_sub (lvsub_of _ _ [2, 1, 0] rfl) ?_
  exact tl_X14_cut_4 X2 hr _ _ _ _ _ hf hK
set_option maxHeartbeats 4000000 in
set_option maxRecDepth 100000 in
theorem m_X14_cut (l : Launch) {D : va_G} {cy : Nat → ClassId} {B : Nat} {H0 : Heap} {Z : Nat → Nat} {M M1 : gMem} {x0 : Nat} {r : Unit} (hf : f_X14_cut Z M x0 = some (r, M1)) : Met l yX14_cut wsX14_cut rX14_cut (va_Pc (Value.ref x0 :: List.map gv []) (gPre D cy B H0 (gSt2 Z B H0) M)) (gQ D cy B H0 none M1) 0 0 (gA B) := by
  refine Met.ofW (cc := cX14_cut) (maxL := 3) (ret := none) (by decide) rfl ?_
  intro p e s m args below meth c s₁ Bd hml hv
  obtain ⟨rfl, hW, hKK, hFs⟩ := hv
  have X2 : gX p s m _ meth c D cy B (gSt2 Z B H0) RX14 cX14_cut wsX14_cut 3 := ⟨Bd.exec, Bd.bytes, atoms_spec (ws := wsX14_cut) Bd.pre, findClass_of_methodNamed Bd.named, hml, hKK, by rw [hW.1]; exact hW.2.1, Bd.notSynchronized, hFs⟩
  have hr := Bd.returns
  have hl := lv_entry ([.ref x0]) (n := 3) (Nat.le_of_ble_eq_true rfl)
  show W p l e rX14_cut s m _ below meth c s.heap [] 0 0 _ (entryFrame m ([.ref x0] : List Value).toArray 3)
  rw [lg_entry_eq]
  generalize (lg_sl ([.ref x0]) ++ List.replicate (3 - (lg_sl ([.ref x0])).length) Slot.unset).toArray = ls at hl ⊢
  have hl : lv_has ls 3 (List.map gq [(0, vR (some x0))]) := hl
  exact t_X14_cut_0 X2 hr _ _ _ hf rfl s.heap [] ls hW va_S.rf (lv_has_sub hl (lvsub_of _ _ [0] rfl))
/-! ## TideLotsModel.is(I)Z -/
theorem dX14_is_0 : decode cX14_is 0 = .ok (.aload_n 0, 1) := by decide +kernel
theorem dX14_is_1 : decode cX14_is 1 = .ok (.getfield 17, 3) := by decide +kernel
theorem dX14_is_4 : decode cX14_is 4 = .ok (.aload_n 0, 1) := by decide +kernel
theorem dX14_is_5 : decode cX14_is 5 = .ok (.getfield 118, 3) := by decide +kernel
theorem dX14_is_8 : decode cX14_is 8 = .ok (.iaload, 1) := by decide +kernel
theorem dX14_is_9 : decode cX14_is 9 = .ok (.iload_n 1, 1) := by decide +kernel
theorem dX14_is_10 : decode cX14_is 10 = .ok (.if_icmp .ne 7, 3) := by decide +kernel
theorem dX14_is_13 : decode cX14_is 13 = .ok (.iconst 1, 1) := by decide +kernel
theorem dX14_is_14 : decode cX14_is 14 = .ok (.goto 4, 3) := by decide +kernel
theorem dX14_is_17 : decode cX14_is 17 = .ok (.iconst 0, 1) := by decide +kernel
theorem dX14_is_18 : decode cX14_is 18 = .ok (.ireturn, 1) := by decide +kernel
theorem k_X14_is_f17 : Cond.fieldLink RX14 17 "TideLotsModel" "kind" "[I" ∈ wsX14_is := by decide +kernel
theorem i_X14_is_X14 : ∀ w ∈ u_ws RX14 TX14 15, w ∈ wsX14_is := by decide +kernel
theorem k_X14_is_f118 : Cond.fieldLink RX14 118 "TideLotsModel" "token" "I" ∈ wsX14_is := by decide +kernel
abbrev rX14_is : Room := { frames := 0, cells := 0, slots := 0, locals := 0 }
noncomputable def b_X14_is_18 (M : gMem) (s0 : Int32) : Option (Int32 × gMem) :=
  ck (s0 = 0 ∨ s0 = 1) <| some (s0, M)
noncomputable def b_X14_is_0 (M : gMem) (x0 : Nat) (x1 : Int32) : Option (Int32 × gMem) :=
  ck (mT M x0 = 13) <| dr ((mR M x0 4)) fun a3 => ck (mT M a3 = 20) <| ck (inb (mI M x0 9) (mL M a3)) <| (if (mI M a3 ((mI M x0 9)).toNatClampNeg) = x1 then b_X14_is_18 M ((1 : Int32)) else b_X14_is_18 M ((0 : Int32)))
noncomputable def f_X14_is (M : gMem) (x0 : Nat) (x1 : Int32) : Option (Int32 × gMem) :=
  b_X14_is_0 M x0 x1
set_option maxHeartbeats 4000000 in
set_option maxRecDepth 100000 in
theorem t_X14_is_18 (X : gX p s m args meth c D cy B (gSt Z B H0) RX14 cX14_is wsX14_is 2) (hr : meth.sig.returnType = (some .boolean)) {Q : State → Prop} : ∀ (M : gMem) (s0 : Int32) (z : Int32 × gMem), b_X14_is_18 M s0 = some z → (fun (r : Int32 × gMem) => Q = gMQ below D cy B H0 args s 0 0 (some (vI r.1)) r.2) z → gGo p l e rX14_is s m args below meth c D cy B H0 2 0 0 Q 18 [] [vI s0] M := by
  intro M s0 z hf hK
  unfold b_X14_is_18 at hf
  obtain ⟨hg1, hf⟩ := ck_e hf
  cases hf
  refine g_eqQ hK ?_
  exact g_zret X hr (gnb hg1) dX14_is_18
set_option maxHeartbeats 4000000 in
set_option maxRecDepth 100000 in
theorem t_X14_is_0 (X : gX p s m args meth c D cy B (gSt Z B H0) RX14 cX14_is wsX14_is 2) (hr : meth.sig.returnType = (some .boolean)) {Q : State → Prop} : ∀ (M : gMem) (x0 : Nat) (x1 : Int32) (z : Int32 × gMem), b_X14_is_0 M x0 x1 = some z → (fun (r : Int32 × gMem) => Q = gMQ below D cy B H0 args s 0 0 (some (vI r.1)) r.2) z → gGo p l e rX14_is s m args below meth c D cy B H0 2 0 0 Q 0 [(0, vR (some x0)), (1, vI x1)] [] M := by
  intro M x0 x1 z hf hK
  unfold b_X14_is_0 at hf
  refine g_aload_n X dX14_is_0 rfl rfl ?_
  obtain ⟨hT2, hf⟩ := ck_e hf
  refine g_get (ci := 12) (v := vR (mR M x0 4)) 4 X cdX14 i_X14_is_X14 (by decide) k_X14_is_f17 rfl dX14_is_1 rfl hT2 rfl ?_
  refine g_aload_n X dX14_is_4 rfl rfl ?_
  refine g_get (ci := 12) (v := vI (mI M x0 9)) 9 X cdX14 i_X14_is_X14 (by decide) k_X14_is_f118 rfl dX14_is_5 rfl hT2 rfl ?_
  obtain ⟨a3, ha3, hf⟩ := dr_e hf
  obtain ⟨hT4, hf⟩ := ck_e hf
  obtain ⟨hg5, hf⟩ := ck_e hf
  refine g_iald X dX14_is_8 ha3 hT4 hg5 ?_
  refine g_iload_n X dX14_is_9 rfl rfl ?_
  refine g_icmp_ne (tgt := 17) X dX14_is_10 (by decide) (fun hc => ?_) (fun hc => ?_)
  · have hf := ife_f hc hf
    refine g_iconst (v := (0 : Int32)) X dX14_is_17 (by decide) ?_
    refine g_sub (lvsub_of _ _ [] rfl) ?_
    exact t_X14_is_18 X hr _ _ _ hf hK
  · have hf := ife_t hc hf
    refine g_iconst (v := (1 : Int32)) X dX14_is_13 (by decide) ?_
    refine g_goto (tgt := 18) X dX14_is_14 (by decide) ?_
    refine g_sub (lvsub_of _ _ [] rfl) ?_
    exact t_X14_is_18 X hr _ _ _ hf hK
set_option maxHeartbeats 4000000 in
set_option maxRecDepth 100000 in
theorem m_X14_is (l : Launch) {D : va_G} {cy : Nat → ClassId} {B : Nat} {H0 : Heap} {Z : Nat → Nat} {M M1 : gMem} {x0 : Nat} {x1 : Int32} {r : Int32} (hf : f_X14_is M x0 x1 = some (r, M1)) : Met l yX14_is wsX14_is rX14_is (va_Pc (Value.ref x0 :: List.map gv [vI x1]) (gPre D cy B H0 (gSt Z B H0) M)) (gQ D cy B H0 (some (vI r)) M1) 0 0 (gA B) := by
  refine Met.ofW (cc := cX14_is) (maxL := 2) (ret := (some .boolean)) (by decide) rfl ?_
  intro p e s m args below meth c s₁ Bd hml hv
  obtain ⟨rfl, hW, hKK, hFs⟩ := hv
  have X : gX p s m _ meth c D cy B (gSt Z B H0) RX14 cX14_is wsX14_is 2 := ⟨Bd.exec, Bd.bytes, atoms_spec (ws := wsX14_is) Bd.pre, findClass_of_methodNamed Bd.named, hml, hKK, by rw [hW.1]; exact hW.2.1, Bd.notSynchronized, hFs⟩
  have hr := Bd.returns
  have hl := lv_entry ([.ref x0, .int x1]) (n := 2) (Nat.le_of_ble_eq_true rfl)
  show W p l e rX14_is s m _ below meth c s.heap [] 0 0 _ (entryFrame m ([.ref x0, .int x1] : List Value).toArray 2)
  rw [lg_entry_eq]
  generalize (lg_sl ([.ref x0, .int x1]) ++ List.replicate (2 - (lg_sl ([.ref x0, .int x1])).length) Slot.unset).toArray = ls at hl ⊢
  have hl : lv_has ls 2 (List.map gq [(0, vR (some x0)), (1, vI x1)]) := hl
  exact t_X14_is_0 X hr _ _ _ _ hf rfl s.heap [] ls hW va_S.rf (lv_has_sub hl (lvsub_of _ _ [0, 1] rfl))
/-! ## TideLotsModel.isSign(C)Z -/
theorem dX14_isSign_0 : decode cX14_isSign 0 = .ok (.aload_n 0, 1) := by decide +kernel
theorem dX14_isSign_1 : decode cX14_isSign 1 = .ok (.getfield 17, 3) := by decide +kernel
theorem dX14_isSign_4 : decode cX14_isSign 4 = .ok (.aload_n 0, 1) := by decide +kernel
theorem dX14_isSign_5 : decode cX14_isSign 5 = .ok (.getfield 118, 3) := by decide +kernel
theorem dX14_isSign_8 : decode cX14_isSign 8 = .ok (.iaload, 1) := by decide +kernel
theorem dX14_isSign_9 : decode cX14_isSign 9 = .ok (.bipush 50, 2) := by decide +kernel
theorem dX14_isSign_11 : decode cX14_isSign 11 = .ok (.iload_n 1, 1) := by decide +kernel
theorem dX14_isSign_12 : decode cX14_isSign 12 = .ok (.iadd, 1) := by decide +kernel
theorem dX14_isSign_13 : decode cX14_isSign 13 = .ok (.if_icmp .ne 7, 3) := by decide +kernel
theorem dX14_isSign_16 : decode cX14_isSign 16 = .ok (.iconst 1, 1) := by decide +kernel
theorem dX14_isSign_17 : decode cX14_isSign 17 = .ok (.goto 4, 3) := by decide +kernel
theorem dX14_isSign_20 : decode cX14_isSign 20 = .ok (.iconst 0, 1) := by decide +kernel
theorem dX14_isSign_21 : decode cX14_isSign 21 = .ok (.ireturn, 1) := by decide +kernel
theorem k_X14_isSign_f17 : Cond.fieldLink RX14 17 "TideLotsModel" "kind" "[I" ∈ wsX14_isSign := by decide +kernel
theorem i_X14_isSign_X14 : ∀ w ∈ u_ws RX14 TX14 15, w ∈ wsX14_isSign := by decide +kernel
theorem k_X14_isSign_f118 : Cond.fieldLink RX14 118 "TideLotsModel" "token" "I" ∈ wsX14_isSign := by decide +kernel
abbrev rX14_isSign : Room := { frames := 0, cells := 0, slots := 0, locals := 0 }
noncomputable def b_X14_isSign_21 (M : gMem) (s0 : Int32) : Option (Int32 × gMem) :=
  ck (s0 = 0 ∨ s0 = 1) <| some (s0, M)
noncomputable def b_X14_isSign_0 (M : gMem) (x0 : Nat) (x1 : Int32) : Option (Int32 × gMem) :=
  ck (mT M x0 = 13) <| dr ((mR M x0 4)) fun a3 => ck (mT M a3 = 20) <| ck (inb (mI M x0 9) (mL M a3)) <| (if (mI M a3 ((mI M x0 9)).toNatClampNeg) = ((50 : Int32) + x1) then b_X14_isSign_21 M ((1 : Int32)) else b_X14_isSign_21 M ((0 : Int32)))
noncomputable def f_X14_isSign (M : gMem) (x0 : Nat) (x1 : Int32) : Option (Int32 × gMem) :=
  b_X14_isSign_0 M x0 x1
set_option maxHeartbeats 4000000 in
set_option maxRecDepth 100000 in
theorem t_X14_isSign_21 (X : gX p s m args meth c D cy B (gSt Z B H0) RX14 cX14_isSign wsX14_isSign 2) (hr : meth.sig.returnType = (some .boolean)) {Q : State → Prop} : ∀ (M : gMem) (s0 : Int32) (z : Int32 × gMem), b_X14_isSign_21 M s0 = some z → (fun (r : Int32 × gMem) => Q = gMQ below D cy B H0 args s 0 0 (some (vI r.1)) r.2) z → gGo p l e rX14_isSign s m args below meth c D cy B H0 2 0 0 Q 21 [] [vI s0] M := by
  intro M s0 z hf hK
  unfold b_X14_isSign_21 at hf
  obtain ⟨hg1, hf⟩ := ck_e hf
  cases hf
  refine g_eqQ hK ?_
  exact g_zret X hr (gnb hg1) dX14_isSign_21
set_option maxHeartbeats 4000000 in
set_option maxRecDepth 100000 in
theorem t_X14_isSign_0 (X : gX p s m args meth c D cy B (gSt Z B H0) RX14 cX14_isSign wsX14_isSign 2) (hr : meth.sig.returnType = (some .boolean)) {Q : State → Prop} : ∀ (M : gMem) (x0 : Nat) (x1 : Int32) (z : Int32 × gMem), b_X14_isSign_0 M x0 x1 = some z → (fun (r : Int32 × gMem) => Q = gMQ below D cy B H0 args s 0 0 (some (vI r.1)) r.2) z → gGo p l e rX14_isSign s m args below meth c D cy B H0 2 0 0 Q 0 [(0, vR (some x0)), (1, vI x1)] [] M := by
  intro M x0 x1 z hf hK
  unfold b_X14_isSign_0 at hf
  refine g_aload_n X dX14_isSign_0 rfl rfl ?_
  obtain ⟨hT2, hf⟩ := ck_e hf
  refine g_get (ci := 12) (v := vR (mR M x0 4)) 4 X cdX14 i_X14_isSign_X14 (by decide) k_X14_isSign_f17 rfl dX14_isSign_1 rfl hT2 rfl ?_
  refine g_aload_n X dX14_isSign_4 rfl rfl ?_
  refine g_get (ci := 12) (v := vI (mI M x0 9)) 9 X cdX14 i_X14_isSign_X14 (by decide) k_X14_isSign_f118 rfl dX14_isSign_5 rfl hT2 rfl ?_
  obtain ⟨a3, ha3, hf⟩ := dr_e hf
  obtain ⟨hT4, hf⟩ := ck_e hf
  obtain ⟨hg5, hf⟩ := ck_e hf
  refine g_iald X dX14_isSign_8 ha3 hT4 hg5 ?_
  refine g_bipush (v := (50 : Int32)) X dX14_isSign_9 (by decide) ?_
  refine g_iload_n X dX14_isSign_11 rfl rfl ?_
  refine g_iadd X dX14_isSign_12 ?_
  refine g_icmp_ne (tgt := 20) X dX14_isSign_13 (by decide) (fun hc => ?_) (fun hc => ?_)
  · have hf := ife_f hc hf
    refine g_iconst (v := (0 : Int32)) X dX14_isSign_20 (by decide) ?_
    refine g_sub (lvsub_of _ _ [] rfl) ?_
    exact t_X14_isSign_21 X hr _ _ _ hf hK
  · have hf := ife_t hc hf
    refine g_iconst (v := (1 : Int32)) X dX14_isSign_16 (by decide) ?_
    refine g_goto (tgt := 21) X dX14_isSign_17 (by decide) ?_
    refine g_sub (lvsub_of _ _ [] rfl) ?_
    exact t_X14_isSign_21 X hr _ _ _ hf hK
set_option maxHeartbeats 4000000 in
set_option maxRecDepth 100000 in
theorem m_X14_isSign (l : Launch) {D : va_G} {cy : Nat → ClassId} {B : Nat} {H0 : Heap} {Z : Nat → Nat} {M M1 : gMem} {x0 : Nat} {x1 : Int32} {r : Int32} (hf : f_X14_isSign M x0 x1 = some (r, M1)) : Met l yX14_isSign wsX14_isSign rX14_isSign (va_Pc (Value.ref x0 :: List.map gv [vI x1]) (gPre D cy B H0 (gSt Z B H0) M)) (gQ D cy B H0 (some (vI r)) M1) 0 0 (gA B) := by
  refine Met.ofW (cc := cX14_isSign) (maxL := 2) (ret := (some .boolean)) (by decide) rfl ?_
  intro p e s m args below meth c s₁ Bd hml hv
  obtain ⟨rfl, hW, hKK, hFs⟩ := hv
  have X : gX p s m _ meth c D cy B (gSt Z B H0) RX14 cX14_isSign wsX14_isSign 2 := ⟨Bd.exec, Bd.bytes, atoms_spec (ws := wsX14_isSign) Bd.pre, findClass_of_methodNamed Bd.named, hml, hKK, by rw [hW.1]; exact hW.2.1, Bd.notSynchronized, hFs⟩
  have hr := Bd.returns
  have hl := lv_entry ([.ref x0, .int x1]) (n := 2) (Nat.le_of_ble_eq_true rfl)
  show W p l e rX14_isSign s m _ below meth c s.heap [] 0 0 _ (entryFrame m ([.ref x0, .int x1] : List Value).toArray 2)
  rw [lg_entry_eq]
  generalize (lg_sl ([.ref x0, .int x1]) ++ List.replicate (2 - (lg_sl ([.ref x0, .int x1])).length) Slot.unset).toArray = ls at hl ⊢
  have hl : lv_has ls 2 (List.map gq [(0, vR (some x0)), (1, vI x1)]) := hl
  exact t_X14_isSign_0 X hr _ _ _ _ hf rfl s.heap [] ls hW va_S.rf (lv_has_sub hl (lvsub_of _ _ [0, 1] rfl))
/-! ## TideLotsModel.eat(I)Z -/
theorem dX14_eat_0 : decode cX14_eat 0 = .ok (.aload_n 0, 1) := by decide +kernel
theorem dX14_eat_1 : decode cX14_eat 1 = .ok (.iload_n 1, 1) := by decide +kernel
theorem dX14_eat_2 : decode cX14_eat 2 = .ok (.invokevirtual 121, 3) := by decide +kernel
theorem dX14_eat_5 : decode cX14_eat 5 = .ok (.ifCond .ne 5, 3) := by decide +kernel
theorem dX14_eat_8 : decode cX14_eat 8 = .ok (.iconst 0, 1) := by decide +kernel
theorem dX14_eat_9 : decode cX14_eat 9 = .ok (.ireturn, 1) := by decide +kernel
theorem dX14_eat_10 : decode cX14_eat 10 = .ok (.aload_n 0, 1) := by decide +kernel
theorem dX14_eat_11 : decode cX14_eat 11 = .ok (.dup, 1) := by decide +kernel
theorem dX14_eat_12 : decode cX14_eat 12 = .ok (.getfield 118, 3) := by decide +kernel
theorem dX14_eat_15 : decode cX14_eat 15 = .ok (.iconst 1, 1) := by decide +kernel
theorem dX14_eat_16 : decode cX14_eat 16 = .ok (.iadd, 1) := by decide +kernel
theorem dX14_eat_17 : decode cX14_eat 17 = .ok (.putfield 118, 3) := by decide +kernel
theorem dX14_eat_20 : decode cX14_eat 20 = .ok (.iconst 1, 1) := by decide +kernel
theorem dX14_eat_21 : decode cX14_eat 21 = .ok (.ireturn, 1) := by decide +kernel
set_option maxRecDepth 20000 in
theorem ggX14_eat_X14_is : GoodIn wsX14_eat wsX14_is := goodIn_r _ [6, 7, 1, 8, 9, 10, 11, 12, 13, 14, 15, 16, 17, 18, 19, 20, 21, 22] (by decide +kernel) (by decide +kernel)
set_option maxRecDepth 20000 in
theorem gX14_eat_X14_is : GoodIn wsX14_eat (wsV RX14 121 RX14 yX14_is wsX14_is) := goodIn_app (goodIn_of _ (by decide +kernel)) ggX14_eat_X14_is
theorem k_X14_eat_f118 : Cond.fieldLink RX14 118 "TideLotsModel" "token" "I" ∈ wsX14_eat := by decide +kernel
theorem i_X14_eat_X14 : ∀ w ∈ u_ws RX14 TX14 15, w ∈ wsX14_eat := by decide +kernel
abbrev rX14_eat : Room := { frames := 1, cells := 0, slots := 0, locals := 21 }
noncomputable def b_X14_eat_0 (M : gMem) (x0 : Nat) (x1 : Int32) : Option (Int32 × gMem) :=
  ck (mT M x0 = 13) <| bd (f_X14_is M x0 x1) fun r1 M1 => (if r1 = 0 then some ((0 : Int32), M1) else ck (mT M1 x0 = 13) <| lw (wI M1 x0 9 (((mI M1 x0 9) + (1 : Int32)))) fun M4 => some ((1 : Int32), M4))
noncomputable def f_X14_eat (M : gMem) (x0 : Nat) (x1 : Int32) : Option (Int32 × gMem) :=
  b_X14_eat_0 M x0 x1
set_option maxHeartbeats 4000000 in
set_option maxRecDepth 100000 in
theorem t_X14_eat_0 (X : gX p s m args meth c D cy B (gSt Z B H0) RX14 cX14_eat wsX14_eat 2) (hr : meth.sig.returnType = (some .boolean)) {Q : State → Prop} : ∀ (M : gMem) (x0 : Nat) (x1 : Int32) (z : Int32 × gMem), b_X14_eat_0 M x0 x1 = some z → (fun (r : Int32 × gMem) => Q = gMQ below D cy B H0 args s 0 0 (some (vI r.1)) r.2) z → gGo p l e rX14_eat s m args below meth c D cy B H0 2 0 0 Q 0 [(0, vR (some x0)), (1, vI x1)] [] M := by
  intro M x0 x1 z hf hK
  unfold b_X14_eat_0 at hf
  refine g_aload_n X dX14_eat_0 rfl rfl ?_
  refine g_iload_n X dX14_eat_1 rfl rfl ?_
  obtain ⟨hT2, hf⟩ := ck_e hf
  obtain ⟨r1, M1, hq1, hf⟩ := bd_e hf
  refine g_callV (ci := 12) (b := x0) (As := [vI x1]) (st := []) (v := some (vI r1)) (M1 := M1) X (m_X14_is l hq1) (cwV 1 X.2.2.1 gX14_eat_X14_is rfl rfl rfl (by decide +kernel) ⟨Nat.le_of_ble_eq_true rfl, Nat.le_of_ble_eq_true rfl⟩) rfl rfl rfl hT2 (by decide) rfl (Nat.le_of_ble_eq_true rfl) dX14_eat_2 ⟨by decide, by decide⟩ ?_
  refine g_if_ne (tgt := 10) X dX14_eat_5 (by decide) (fun hc => ?_) (fun hc => ?_)
  · have hf := ife_f hc hf
    refine g_aload_n X dX14_eat_10 rfl rfl ?_
    refine g_dup X dX14_eat_11 rfl ?_
    obtain ⟨hT3, hf⟩ := ck_e hf
    refine g_get (ci := 12) (v := vI (mI M1 x0 9)) 9 X cdX14 i_X14_eat_X14 (by decide) k_X14_eat_f118 rfl dX14_eat_12 rfl hT3 rfl ?_
    refine g_iconst (v := (1 : Int32)) X dX14_eat_15 (by decide) ?_
    refine g_iadd X dX14_eat_16 ?_
    refine g_putI (ci := 12) 9 X cdX14 i_X14_eat_X14 (by decide) k_X14_eat_f118 rfl dX14_eat_17 rfl hT3 (Or.inl rfl) rfl rfl rfl ?_
    obtain ⟨M4, hM4, hf⟩ := lw_e hf
    rw [← hM4]
    have hT5 : mT M4 x0 = 13 := by rw [hM4]; exact hT3
    refine g_iconst (v := (1 : Int32)) X dX14_eat_20 (by decide) ?_
    cases hf
    refine g_eqQ hK ?_
    exact g_zret X hr (gnb (Or.inr rfl)) dX14_eat_21
  · have hf := ife_t hc hf
    refine g_iconst (v := (0 : Int32)) X dX14_eat_8 (by decide) ?_
    cases hf
    refine g_eqQ hK ?_
    exact g_zret X hr (gnb (Or.inl rfl)) dX14_eat_9
set_option maxHeartbeats 4000000 in
set_option maxRecDepth 100000 in
theorem m_X14_eat (l : Launch) {D : va_G} {cy : Nat → ClassId} {B : Nat} {H0 : Heap} {Z : Nat → Nat} {M M1 : gMem} {x0 : Nat} {x1 : Int32} {r : Int32} (hf : f_X14_eat M x0 x1 = some (r, M1)) : Met l yX14_eat wsX14_eat rX14_eat (va_Pc (Value.ref x0 :: List.map gv [vI x1]) (gPre D cy B H0 (gSt Z B H0) M)) (gQ D cy B H0 (some (vI r)) M1) 0 0 (gA B) := by
  refine Met.ofW (cc := cX14_eat) (maxL := 2) (ret := (some .boolean)) (by decide) rfl ?_
  intro p e s m args below meth c s₁ Bd hml hv
  obtain ⟨rfl, hW, hKK, hFs⟩ := hv
  have X : gX p s m _ meth c D cy B (gSt Z B H0) RX14 cX14_eat wsX14_eat 2 := ⟨Bd.exec, Bd.bytes, atoms_spec (ws := wsX14_eat) Bd.pre, findClass_of_methodNamed Bd.named, hml, hKK, by rw [hW.1]; exact hW.2.1, Bd.notSynchronized, hFs⟩
  have hr := Bd.returns
  have hl := lv_entry ([.ref x0, .int x1]) (n := 2) (Nat.le_of_ble_eq_true rfl)
  show W p l e rX14_eat s m _ below meth c s.heap [] 0 0 _ (entryFrame m ([.ref x0, .int x1] : List Value).toArray 2)
  rw [lg_entry_eq]
  generalize (lg_sl ([.ref x0, .int x1]) ++ List.replicate (2 - (lg_sl ([.ref x0, .int x1])).length) Slot.unset).toArray = ls at hl ⊢
  have hl : lv_has ls 2 (List.map gq [(0, vR (some x0)), (1, vI x1)]) := hl
  exact t_X14_eat_0 X hr _ _ _ _ hf rfl s.heap [] ls hW va_S.rf (lv_has_sub hl (lvsub_of _ _ [0, 1] rfl))
/-! ## TideLotsModel.eatSign(C)Z -/
theorem dX14_eatSign_0 : decode cX14_eatSign 0 = .ok (.aload_n 0, 1) := by decide +kernel
theorem dX14_eatSign_1 : decode cX14_eatSign 1 = .ok (.bipush 50, 2) := by decide +kernel
theorem dX14_eatSign_3 : decode cX14_eatSign 3 = .ok (.iload_n 1, 1) := by decide +kernel
theorem dX14_eatSign_4 : decode cX14_eatSign 4 = .ok (.iadd, 1) := by decide +kernel
theorem dX14_eatSign_5 : decode cX14_eatSign 5 = .ok (.invokevirtual 124, 3) := by decide +kernel
theorem dX14_eatSign_8 : decode cX14_eatSign 8 = .ok (.ireturn, 1) := by decide +kernel
set_option maxRecDepth 20000 in
theorem ggX14_eatSign_X14_eat : GoodIn wsX14_eatSign wsX14_eat := goodIn_r _ [5, 6, 7, 8, 9, 4, 10, 11, 12, 13, 14, 15, 16, 17, 18, 19, 20, 21, 22, 23, 24, 25, 26] (by decide +kernel) (by decide +kernel)
set_option maxRecDepth 20000 in
theorem gX14_eatSign_X14_eat : GoodIn wsX14_eatSign (wsV RX14 124 RX14 yX14_eat wsX14_eat) := goodIn_app (goodIn_of _ (by decide +kernel)) ggX14_eatSign_X14_eat
abbrev rX14_eatSign : Room := { frames := 2, cells := 0, slots := 0, locals := 42 }
noncomputable def b_X14_eatSign_0 (M : gMem) (x0 : Nat) (x1 : Int32) : Option (Int32 × gMem) :=
  ck (mT M x0 = 13) <| bd (f_X14_eat M x0 (((50 : Int32) + x1))) fun r1 M1 => ck (r1 = 0 ∨ r1 = 1) <| some (r1, M1)
noncomputable def f_X14_eatSign (M : gMem) (x0 : Nat) (x1 : Int32) : Option (Int32 × gMem) :=
  b_X14_eatSign_0 M x0 x1
set_option maxHeartbeats 4000000 in
set_option maxRecDepth 100000 in
theorem t_X14_eatSign_0 (X : gX p s m args meth c D cy B (gSt Z B H0) RX14 cX14_eatSign wsX14_eatSign 2) (hr : meth.sig.returnType = (some .boolean)) {Q : State → Prop} : ∀ (M : gMem) (x0 : Nat) (x1 : Int32) (z : Int32 × gMem), b_X14_eatSign_0 M x0 x1 = some z → (fun (r : Int32 × gMem) => Q = gMQ below D cy B H0 args s 0 0 (some (vI r.1)) r.2) z → gGo p l e rX14_eatSign s m args below meth c D cy B H0 2 0 0 Q 0 [(0, vR (some x0)), (1, vI x1)] [] M := by
  intro M x0 x1 z hf hK
  unfold b_X14_eatSign_0 at hf
  refine g_aload_n X dX14_eatSign_0 rfl rfl ?_
  refine g_bipush (v := (50 : Int32)) X dX14_eatSign_1 (by decide) ?_
  refine g_iload_n X dX14_eatSign_3 rfl rfl ?_
  refine g_iadd X dX14_eatSign_4 ?_
  obtain ⟨hT2, hf⟩ := ck_e hf
  obtain ⟨r1, M1, hq1, hf⟩ := bd_e hf
  refine g_callV (ci := 12) (b := x0) (As := [vI ((50 : Int32) + x1)]) (st := []) (v := some (vI r1)) (M1 := M1) X (m_X14_eat l hq1) (cwV 1 X.2.2.1 gX14_eatSign_X14_eat rfl rfl rfl (by decide +kernel) ⟨Nat.le_of_ble_eq_true rfl, Nat.le_of_ble_eq_true rfl⟩) rfl rfl rfl hT2 (by decide) rfl (Nat.le_of_ble_eq_true rfl) dX14_eatSign_5 ⟨by decide, by decide⟩ ?_
  obtain ⟨hg3, hf⟩ := ck_e hf
  cases hf
  refine g_eqQ hK ?_
  exact g_zret X hr (gnb hg3) dX14_eatSign_8
set_option maxHeartbeats 4000000 in
set_option maxRecDepth 100000 in
theorem m_X14_eatSign (l : Launch) {D : va_G} {cy : Nat → ClassId} {B : Nat} {H0 : Heap} {Z : Nat → Nat} {M M1 : gMem} {x0 : Nat} {x1 : Int32} {r : Int32} (hf : f_X14_eatSign M x0 x1 = some (r, M1)) : Met l yX14_eatSign wsX14_eatSign rX14_eatSign (va_Pc (Value.ref x0 :: List.map gv [vI x1]) (gPre D cy B H0 (gSt Z B H0) M)) (gQ D cy B H0 (some (vI r)) M1) 0 0 (gA B) := by
  refine Met.ofW (cc := cX14_eatSign) (maxL := 2) (ret := (some .boolean)) (by decide) rfl ?_
  intro p e s m args below meth c s₁ Bd hml hv
  obtain ⟨rfl, hW, hKK, hFs⟩ := hv
  have X : gX p s m _ meth c D cy B (gSt Z B H0) RX14 cX14_eatSign wsX14_eatSign 2 := ⟨Bd.exec, Bd.bytes, atoms_spec (ws := wsX14_eatSign) Bd.pre, findClass_of_methodNamed Bd.named, hml, hKK, by rw [hW.1]; exact hW.2.1, Bd.notSynchronized, hFs⟩
  have hr := Bd.returns
  have hl := lv_entry ([.ref x0, .int x1]) (n := 2) (Nat.le_of_ble_eq_true rfl)
  show W p l e rX14_eatSign s m _ below meth c s.heap [] 0 0 _ (entryFrame m ([.ref x0, .int x1] : List Value).toArray 2)
  rw [lg_entry_eq]
  generalize (lg_sl ([.ref x0, .int x1]) ++ List.replicate (2 - (lg_sl ([.ref x0, .int x1])).length) Slot.unset).toArray = ls at hl ⊢
  have hl : lv_has ls 2 (List.map gq [(0, vR (some x0)), (1, vI x1)]) := hl
  exact t_X14_eatSign_0 X hr _ _ _ _ hf rfl s.heap [] ls hW va_S.rf (lv_has_sub hl (lvsub_of _ _ [0, 1] rfl))
/-! ## TideLotsModel.eatAs(II)Z -/
theorem dX14_eatAs_0 : decode cX14_eatAs 0 = .ok (.aload_n 0, 1) := by decide +kernel
theorem dX14_eatAs_1 : decode cX14_eatAs 1 = .ok (.getfield 26, 3) := by decide +kernel
theorem dX14_eatAs_4 : decode cX14_eatAs 4 = .ok (.aload_n 0, 1) := by decide +kernel
theorem dX14_eatAs_5 : decode cX14_eatAs 5 = .ok (.getfield 118, 3) := by decide +kernel
theorem dX14_eatAs_8 : decode cX14_eatAs 8 = .ok (.iload_n 2, 1) := by decide +kernel
theorem dX14_eatAs_9 : decode cX14_eatAs 9 = .ok (.iastore, 1) := by decide +kernel
theorem dX14_eatAs_10 : decode cX14_eatAs 10 = .ok (.aload_n 0, 1) := by decide +kernel
theorem dX14_eatAs_11 : decode cX14_eatAs 11 = .ok (.iload_n 1, 1) := by decide +kernel
theorem dX14_eatAs_12 : decode cX14_eatAs 12 = .ok (.invokevirtual 124, 3) := by decide +kernel
theorem dX14_eatAs_15 : decode cX14_eatAs 15 = .ok (.ireturn, 1) := by decide +kernel
set_option maxRecDepth 20000 in
theorem ggX14_eatAs_X14_eat : GoodIn wsX14_eatAs wsX14_eat := goodIn_r _ [7, 2, 8, 9, 10, 6, 11, 12, 13, 14, 15, 16, 17, 18, 19, 20, 21, 22, 23, 24, 25, 26, 27] (by decide +kernel) (by decide +kernel)
set_option maxRecDepth 20000 in
theorem gX14_eatAs_X14_eat : GoodIn wsX14_eatAs (wsV RX14 124 RX14 yX14_eat wsX14_eat) := goodIn_app (goodIn_of _ (by decide +kernel)) ggX14_eatAs_X14_eat
theorem k_X14_eatAs_f26 : Cond.fieldLink RX14 26 "TideLotsModel" "role" "[I" ∈ wsX14_eatAs := by decide +kernel
theorem i_X14_eatAs_X14 : ∀ w ∈ u_ws RX14 TX14 15, w ∈ wsX14_eatAs := by decide +kernel
theorem k_X14_eatAs_f118 : Cond.fieldLink RX14 118 "TideLotsModel" "token" "I" ∈ wsX14_eatAs := by decide +kernel
abbrev rX14_eatAs : Room := { frames := 2, cells := 0, slots := 0, locals := 42 }
noncomputable def b_X14_eatAs_0 (M : gMem) (x0 : Nat) (x1 : Int32) (x2 : Int32) : Option (Int32 × gMem) :=
  ck (mT M x0 = 13) <| dr ((mR M x0 7)) fun a2 => ck (mT M a2 = 20) <| ck (inb (mI M x0 9) (mL M a2)) <| lw (wI M a2 ((mI M x0 9)).toNatClampNeg x2) fun M5 => bd (f_X14_eat M5 x0 x1) fun r8 M8 => ck (r8 = 0 ∨ r8 = 1) <| some (r8, M8)
noncomputable def f_X14_eatAs (M : gMem) (x0 : Nat) (x1 : Int32) (x2 : Int32) : Option (Int32 × gMem) :=
  b_X14_eatAs_0 M x0 x1 x2
set_option maxHeartbeats 4000000 in
set_option maxRecDepth 100000 in
theorem t_X14_eatAs_0 (X : gX p s m args meth c D cy B (gSt Z B H0) RX14 cX14_eatAs wsX14_eatAs 3) (hr : meth.sig.returnType = (some .boolean)) {Q : State → Prop} : ∀ (M : gMem) (x0 : Nat) (x1 : Int32) (x2 : Int32) (z : Int32 × gMem), b_X14_eatAs_0 M x0 x1 x2 = some z → (fun (r : Int32 × gMem) => Q = gMQ below D cy B H0 args s 0 0 (some (vI r.1)) r.2) z → gGo p l e rX14_eatAs s m args below meth c D cy B H0 3 0 0 Q 0 [(0, vR (some x0)), (1, vI x1), (2, vI x2)] [] M := by
  intro M x0 x1 x2 z hf hK
  unfold b_X14_eatAs_0 at hf
  refine g_aload_n X dX14_eatAs_0 rfl rfl ?_
  obtain ⟨hT1, hf⟩ := ck_e hf
  refine g_get (ci := 12) (v := vR (mR M x0 7)) 7 X cdX14 i_X14_eatAs_X14 (by decide) k_X14_eatAs_f26 rfl dX14_eatAs_1 rfl hT1 rfl ?_
  refine g_aload_n X dX14_eatAs_4 rfl rfl ?_
  refine g_get (ci := 12) (v := vI (mI M x0 9)) 9 X cdX14 i_X14_eatAs_X14 (by decide) k_X14_eatAs_f118 rfl dX14_eatAs_5 rfl hT1 rfl ?_
  refine g_iload_n X dX14_eatAs_8 rfl rfl ?_
  obtain ⟨a2, ha2, hf⟩ := dr_e hf
  obtain ⟨hT3, hf⟩ := ck_e hf
  obtain ⟨hg4, hf⟩ := ck_e hf
  refine g_iast X dX14_eatAs_9 ha2 hT3 hg4 ?_
  obtain ⟨M5, hM5, hf⟩ := lw_e hf
  rw [← hM5]
  have hT6 : mT M5 x0 = 13 := by rw [hM5]; exact hT1
  have hT7 : mT M5 a2 = 20 := by rw [hM5]; exact hT3
  refine g_aload_n X dX14_eatAs_10 rfl rfl ?_
  refine g_iload_n X dX14_eatAs_11 rfl rfl ?_
  obtain ⟨r8, M8, hq8, hf⟩ := bd_e hf
  refine g_callV (ci := 12) (b := x0) (As := [vI x1]) (st := []) (v := some (vI r8)) (M1 := M8) X (m_X14_eat l hq8) (cwV 1 X.2.2.1 gX14_eatAs_X14_eat rfl rfl rfl (by decide +kernel) ⟨Nat.le_of_ble_eq_true rfl, Nat.le_of_ble_eq_true rfl⟩) rfl rfl rfl hT6 (by decide) rfl (Nat.le_of_ble_eq_true rfl) dX14_eatAs_12 ⟨by decide, by decide⟩ ?_
  obtain ⟨hg9, hf⟩ := ck_e hf
  cases hf
  refine g_eqQ hK ?_
  exact g_zret X hr (gnb hg9) dX14_eatAs_15
set_option maxHeartbeats 4000000 in
set_option maxRecDepth 100000 in
theorem m_X14_eatAs (l : Launch) {D : va_G} {cy : Nat → ClassId} {B : Nat} {H0 : Heap} {Z : Nat → Nat} {M M1 : gMem} {x0 : Nat} {x1 : Int32} {x2 : Int32} {r : Int32} (hf : f_X14_eatAs M x0 x1 x2 = some (r, M1)) : Met l yX14_eatAs wsX14_eatAs rX14_eatAs (va_Pc (Value.ref x0 :: List.map gv [vI x1, vI x2]) (gPre D cy B H0 (gSt Z B H0) M)) (gQ D cy B H0 (some (vI r)) M1) 0 0 (gA B) := by
  refine Met.ofW (cc := cX14_eatAs) (maxL := 3) (ret := (some .boolean)) (by decide) rfl ?_
  intro p e s m args below meth c s₁ Bd hml hv
  obtain ⟨rfl, hW, hKK, hFs⟩ := hv
  have X : gX p s m _ meth c D cy B (gSt Z B H0) RX14 cX14_eatAs wsX14_eatAs 3 := ⟨Bd.exec, Bd.bytes, atoms_spec (ws := wsX14_eatAs) Bd.pre, findClass_of_methodNamed Bd.named, hml, hKK, by rw [hW.1]; exact hW.2.1, Bd.notSynchronized, hFs⟩
  have hr := Bd.returns
  have hl := lv_entry ([.ref x0, .int x1, .int x2]) (n := 3) (Nat.le_of_ble_eq_true rfl)
  show W p l e rX14_eatAs s m _ below meth c s.heap [] 0 0 _ (entryFrame m ([.ref x0, .int x1, .int x2] : List Value).toArray 3)
  rw [lg_entry_eq]
  generalize (lg_sl ([.ref x0, .int x1, .int x2]) ++ List.replicate (3 - (lg_sl ([.ref x0, .int x1, .int x2])).length) Slot.unset).toArray = ls at hl ⊢
  have hl : lv_has ls 3 (List.map gq [(0, vR (some x0)), (1, vI x1), (2, vI x2)]) := hl
  exact t_X14_eatAs_0 X hr _ _ _ _ _ hf rfl s.heap [] ls hW va_S.rf (lv_has_sub hl (lvsub_of _ _ [0, 1, 2] rfl))
/-! ## TideLotsModel.put(I)V -/
theorem dX14_put_0 : decode cX14_put 0 = .ok (.aload_n 0, 1) := by decide +kernel
theorem dX14_put_1 : decode cX14_put 1 = .ok (.getfield 39, 3) := by decide +kernel
theorem dX14_put_4 : decode cX14_put 4 = .ok (.getfield 127, 3) := by decide +kernel
theorem dX14_put_7 : decode cX14_put 7 = .ok (.aload_n 0, 1) := by decide +kernel
theorem dX14_put_8 : decode cX14_put 8 = .ok (.getfield 39, 3) := by decide +kernel
theorem dX14_put_11 : decode cX14_put 11 = .ok (.getfield 130, 3) := by decide +kernel
theorem dX14_put_14 : decode cX14_put 14 = .ok (.iload_n 1, 1) := by decide +kernel
theorem dX14_put_15 : decode cX14_put 15 = .ok (.iastore, 1) := by decide +kernel
theorem dX14_put_16 : decode cX14_put 16 = .ok (.aload_n 0, 1) := by decide +kernel
theorem dX14_put_17 : decode cX14_put 17 = .ok (.getfield 39, 3) := by decide +kernel
theorem dX14_put_20 : decode cX14_put 20 = .ok (.dup, 1) := by decide +kernel
theorem dX14_put_21 : decode cX14_put 21 = .ok (.getfield 130, 3) := by decide +kernel
theorem dX14_put_24 : decode cX14_put 24 = .ok (.iconst 1, 1) := by decide +kernel
theorem dX14_put_25 : decode cX14_put 25 = .ok (.iadd, 1) := by decide +kernel
theorem dX14_put_26 : decode cX14_put 26 = .ok (.putfield 130, 3) := by decide +kernel
theorem dX14_put_29 : decode cX14_put 29 = .ok (.return_, 1) := by decide +kernel
theorem k_X14_put_f39 : Cond.fieldLink RX14 39 "TideLotsModel" "reading" "LTideLotsModel$Told;" ∈ wsX14_put := by decide +kernel
theorem i_X14_put_X14 : ∀ w ∈ u_ws RX14 TX14 15, w ∈ wsX14_put := by decide +kernel
theorem kn_X14_127 : Cond.fieldLinkNest "TideLotsModel" (127 : Nat) "TideLotsModel$Told" "code" "[I" "TideLotsModel" ∈ gNs := by decide +kernel
theorem i_X14_put_X13 : ∀ w ∈ u_ws RX13 TX13 25, w ∈ wsX14_put := by decide +kernel
theorem kn_X14_130 : Cond.fieldLinkNest "TideLotsModel" (130 : Nat) "TideLotsModel$Told" "length" "I" "TideLotsModel" ∈ gNs := by decide +kernel
abbrev rX14_put : Room := { frames := 0, cells := 0, slots := 0, locals := 0 }
noncomputable def b_X14_put_0 (M : gMem) (x0 : Nat) (x1 : Int32) : Option (Unit × gMem) :=
  ck (mT M x0 = 13) <| dr ((mR M x0 12)) fun a2 => ck (mT M a2 = 12) <| dr ((mR M a2 21)) fun a4 => ck (mT M a4 = 20) <| ck (inb (mI M a2 22) (mL M a4)) <| lw (wI M a4 ((mI M a2 22)).toNatClampNeg x1) fun M7 => dr ((mR M7 x0 12)) fun a11 => ck (mT M7 a11 = 12) <| lw (wI M7 a11 22 (((mI M7 a11 22) + (1 : Int32)))) fun M13 => some ((), M13)
noncomputable def f_X14_put (M : gMem) (x0 : Nat) (x1 : Int32) : Option (Unit × gMem) :=
  b_X14_put_0 M x0 x1
set_option maxHeartbeats 4000000 in
set_option maxRecDepth 100000 in
theorem t_X14_put_0 (X : gX p s m args meth c D cy B (gSt Z B H0) RX14 cX14_put wsX14_put 2) (hr : meth.sig.returnType = none) {Q : State → Prop} : ∀ (M : gMem) (x0 : Nat) (x1 : Int32) (z : Unit × gMem), b_X14_put_0 M x0 x1 = some z → (fun (r : Unit × gMem) => Q = gMQ below D cy B H0 args s 0 0 none r.2) z → gGo p l e rX14_put s m args below meth c D cy B H0 2 0 0 Q 0 [(0, vR (some x0)), (1, vI x1)] [] M := by
  intro M x0 x1 z hf hK
  unfold b_X14_put_0 at hf
  refine g_aload_n X dX14_put_0 rfl rfl ?_
  obtain ⟨hT1, hf⟩ := ck_e hf
  refine g_get (ci := 12) (v := vR (mR M x0 12)) 12 X cdX14 i_X14_put_X14 (by decide) k_X14_put_f39 rfl dX14_put_1 rfl hT1 rfl ?_
  obtain ⟨a2, ha2, hf⟩ := dr_e hf
  obtain ⟨hT3, hf⟩ := ck_e hf
  refine g_getN (ci := 11) (w := vR (mR M a2 21)) 21 X cdX13 i_X14_put_X13 (by decide) (gNw X _ kn_X14_127) rfl dX14_put_4 ha2 hT3 rfl ?_
  refine g_aload_n X dX14_put_7 rfl rfl ?_
  refine g_get (ci := 12) (v := vR (mR M x0 12)) 12 X cdX14 i_X14_put_X14 (by decide) k_X14_put_f39 rfl dX14_put_8 rfl hT1 rfl ?_
  refine g_getN (ci := 11) (w := vI (mI M a2 22)) 22 X cdX13 i_X14_put_X13 (by decide) (gNw X _ kn_X14_130) rfl dX14_put_11 ha2 hT3 rfl ?_
  refine g_iload_n X dX14_put_14 rfl rfl ?_
  obtain ⟨a4, ha4, hf⟩ := dr_e hf
  obtain ⟨hT5, hf⟩ := ck_e hf
  obtain ⟨hg6, hf⟩ := ck_e hf
  refine g_iast X dX14_put_15 ha4 hT5 hg6 ?_
  obtain ⟨M7, hM7, hf⟩ := lw_e hf
  rw [← hM7]
  have hT8 : mT M7 x0 = 13 := by rw [hM7]; exact hT1
  have hT9 : mT M7 a2 = 12 := by rw [hM7]; exact hT3
  have hT10 : mT M7 a4 = 20 := by rw [hM7]; exact hT5
  refine g_aload_n X dX14_put_16 rfl rfl ?_
  refine g_get (ci := 12) (v := vR (mR M7 x0 12)) 12 X cdX14 i_X14_put_X14 (by decide) k_X14_put_f39 rfl dX14_put_17 rfl hT8 rfl ?_
  refine g_dup X dX14_put_20 rfl ?_
  obtain ⟨a11, ha11, hf⟩ := dr_e hf
  obtain ⟨hT12, hf⟩ := ck_e hf
  refine g_getN (ci := 11) (w := vI (mI M7 a11 22)) 22 X cdX13 i_X14_put_X13 (by decide) (gNw X _ kn_X14_130) rfl dX14_put_21 ha11 hT12 rfl ?_
  refine g_iconst (v := (1 : Int32)) X dX14_put_24 (by decide) ?_
  refine g_iadd X dX14_put_25 ?_
  refine g_putIN (ci := 11) 22 X cdX13 i_X14_put_X13 (by decide) (gNw X _ kn_X14_130) rfl dX14_put_26 ha11 hT12 rfl rfl rfl rfl ?_
  obtain ⟨M13, hM13, hf⟩ := lw_e hf
  rw [← hM13]
  have hT14 : mT M13 x0 = 13 := by rw [hM13]; exact hT8
  have hT15 : mT M13 a2 = 12 := by rw [hM13]; exact hT9
  have hT16 : mT M13 a4 = 20 := by rw [hM13]; exact hT10
  have hT17 : mT M13 a11 = 12 := by rw [hM13]; exact hT12
  cases hf
  refine g_eqQ hK ?_
  exact g_vret X hr dX14_put_29
set_option maxHeartbeats 4000000 in
set_option maxRecDepth 100000 in
theorem m_X14_put (l : Launch) {D : va_G} {cy : Nat → ClassId} {B : Nat} {H0 : Heap} {Z : Nat → Nat} {M M1 : gMem} {x0 : Nat} {x1 : Int32} {r : Unit} (hf : f_X14_put M x0 x1 = some (r, M1)) : Met l yX14_put wsX14_put rX14_put (va_Pc (Value.ref x0 :: List.map gv [vI x1]) (gPre D cy B H0 (gSt Z B H0) M)) (gQ D cy B H0 none M1) 0 0 (gA B) := by
  refine Met.ofW (cc := cX14_put) (maxL := 2) (ret := none) (by decide) rfl ?_
  intro p e s m args below meth c s₁ Bd hml hv
  obtain ⟨rfl, hW, hKK, hFs⟩ := hv
  have X : gX p s m _ meth c D cy B (gSt Z B H0) RX14 cX14_put wsX14_put 2 := ⟨Bd.exec, Bd.bytes, atoms_spec (ws := wsX14_put) Bd.pre, findClass_of_methodNamed Bd.named, hml, hKK, by rw [hW.1]; exact hW.2.1, Bd.notSynchronized, hFs⟩
  have hr := Bd.returns
  have hl := lv_entry ([.ref x0, .int x1]) (n := 2) (Nat.le_of_ble_eq_true rfl)
  show W p l e rX14_put s m _ below meth c s.heap [] 0 0 _ (entryFrame m ([.ref x0, .int x1] : List Value).toArray 2)
  rw [lg_entry_eq]
  generalize (lg_sl ([.ref x0, .int x1]) ++ List.replicate (2 - (lg_sl ([.ref x0, .int x1])).length) Slot.unset).toArray = ls at hl ⊢
  have hl : lv_has ls 2 (List.map gq [(0, vR (some x0)), (1, vI x1)]) := hl
  exact t_X14_put_0 X hr _ _ _ _ hf rfl s.heap [] ls hW va_S.rf (lv_has_sub hl (lvsub_of _ _ [0, 1] rfl))
/-! ## TideLotsModel.isDeeper()Z -/
theorem dX14_isDeeper_0 : decode cX14_isDeeper 0 = .ok (.aload_n 0, 1) := by decide +kernel
theorem dX14_isDeeper_1 : decode cX14_isDeeper 1 = .ok (.getfield 187, 3) := by decide +kernel
theorem dX14_isDeeper_4 : decode cX14_isDeeper 4 = .ok (.bipush 8, 2) := by decide +kernel
theorem dX14_isDeeper_6 : decode cX14_isDeeper 6 = .ok (.if_icmp .ne 5, 3) := by decide +kernel
theorem dX14_isDeeper_9 : decode cX14_isDeeper 9 = .ok (.iconst 0, 1) := by decide +kernel
theorem dX14_isDeeper_10 : decode cX14_isDeeper 10 = .ok (.ireturn, 1) := by decide +kernel
theorem dX14_isDeeper_11 : decode cX14_isDeeper 11 = .ok (.aload_n 0, 1) := by decide +kernel
theorem dX14_isDeeper_12 : decode cX14_isDeeper 12 = .ok (.dup, 1) := by decide +kernel
theorem dX14_isDeeper_13 : decode cX14_isDeeper 13 = .ok (.getfield 187, 3) := by decide +kernel
theorem dX14_isDeeper_16 : decode cX14_isDeeper 16 = .ok (.iconst 1, 1) := by decide +kernel
theorem dX14_isDeeper_17 : decode cX14_isDeeper 17 = .ok (.iadd, 1) := by decide +kernel
theorem dX14_isDeeper_18 : decode cX14_isDeeper 18 = .ok (.putfield 187, 3) := by decide +kernel
theorem dX14_isDeeper_21 : decode cX14_isDeeper 21 = .ok (.aload_n 0, 1) := by decide +kernel
theorem dX14_isDeeper_22 : decode cX14_isDeeper 22 = .ok (.dup, 1) := by decide +kernel
theorem dX14_isDeeper_23 : decode cX14_isDeeper 23 = .ok (.getfield 118, 3) := by decide +kernel
theorem dX14_isDeeper_26 : decode cX14_isDeeper 26 = .ok (.iconst 1, 1) := by decide +kernel
theorem dX14_isDeeper_27 : decode cX14_isDeeper 27 = .ok (.iadd, 1) := by decide +kernel
theorem dX14_isDeeper_28 : decode cX14_isDeeper 28 = .ok (.putfield 118, 3) := by decide +kernel
theorem dX14_isDeeper_31 : decode cX14_isDeeper 31 = .ok (.iconst 1, 1) := by decide +kernel
theorem dX14_isDeeper_32 : decode cX14_isDeeper 32 = .ok (.ireturn, 1) := by decide +kernel
theorem k_X14_isDeeper_f187 : Cond.fieldLink RX14 187 "TideLotsModel" "depth" "I" ∈ wsX14_isDeeper := by decide +kernel
theorem i_X14_isDeeper_X14 : ∀ w ∈ u_ws RX14 TX14 15, w ∈ wsX14_isDeeper := by decide +kernel
theorem k_X14_isDeeper_f118 : Cond.fieldLink RX14 118 "TideLotsModel" "token" "I" ∈ wsX14_isDeeper := by decide +kernel
abbrev rX14_isDeeper : Room := { frames := 0, cells := 0, slots := 0, locals := 0 }
noncomputable def b_X14_isDeeper_0 (M : gMem) (x0 : Nat) : Option (Int32 × gMem) :=
  ck (mT M x0 = 13) <| (if (mI M x0 10) = (8 : Int32) then some ((0 : Int32), M) else lw (wI M x0 10 (((mI M x0 10) + (1 : Int32)))) fun M2 => lw (wI M2 x0 9 (((mI M2 x0 9) + (1 : Int32)))) fun M4 => some ((1 : Int32), M4))
noncomputable def f_X14_isDeeper (M : gMem) (x0 : Nat) : Option (Int32 × gMem) :=
  b_X14_isDeeper_0 M x0
set_option maxHeartbeats 4000000 in
set_option maxRecDepth 100000 in
theorem t_X14_isDeeper_0 (X : gX p s m args meth c D cy B (gSt Z B H0) RX14 cX14_isDeeper wsX14_isDeeper 1) (hr : meth.sig.returnType = (some .boolean)) {Q : State → Prop} : ∀ (M : gMem) (x0 : Nat) (z : Int32 × gMem), b_X14_isDeeper_0 M x0 = some z → (fun (r : Int32 × gMem) => Q = gMQ below D cy B H0 args s 0 0 (some (vI r.1)) r.2) z → gGo p l e rX14_isDeeper s m args below meth c D cy B H0 1 0 0 Q 0 [(0, vR (some x0))] [] M := by
  intro M x0 z hf hK
  unfold b_X14_isDeeper_0 at hf
  refine g_aload_n X dX14_isDeeper_0 rfl rfl ?_
  obtain ⟨hT1, hf⟩ := ck_e hf
  refine g_get (ci := 12) (v := vI (mI M x0 10)) 10 X cdX14 i_X14_isDeeper_X14 (by decide) k_X14_isDeeper_f187 rfl dX14_isDeeper_1 rfl hT1 rfl ?_
  refine g_bipush (v := (8 : Int32)) X dX14_isDeeper_4 (by decide) ?_
  refine g_icmp_ne (tgt := 11) X dX14_isDeeper_6 (by decide) (fun hc => ?_) (fun hc => ?_)
  · have hf := ife_f hc hf
    refine g_aload_n X dX14_isDeeper_11 rfl rfl ?_
    refine g_dup X dX14_isDeeper_12 rfl ?_
    refine g_get (ci := 12) (v := vI (mI M x0 10)) 10 X cdX14 i_X14_isDeeper_X14 (by decide) k_X14_isDeeper_f187 rfl dX14_isDeeper_13 rfl hT1 rfl ?_
    refine g_iconst (v := (1 : Int32)) X dX14_isDeeper_16 (by decide) ?_
    refine g_iadd X dX14_isDeeper_17 ?_
    refine g_putI (ci := 12) 10 X cdX14 i_X14_isDeeper_X14 (by decide) k_X14_isDeeper_f187 rfl dX14_isDeeper_18 rfl hT1 (Or.inl rfl) rfl rfl rfl ?_
    obtain ⟨M2, hM2, hf⟩ := lw_e hf
    rw [← hM2]
    have hT3 : mT M2 x0 = 13 := by rw [hM2]; exact hT1
    refine g_aload_n X dX14_isDeeper_21 rfl rfl ?_
    refine g_dup X dX14_isDeeper_22 rfl ?_
    refine g_get (ci := 12) (v := vI (mI M2 x0 9)) 9 X cdX14 i_X14_isDeeper_X14 (by decide) k_X14_isDeeper_f118 rfl dX14_isDeeper_23 rfl hT3 rfl ?_
    refine g_iconst (v := (1 : Int32)) X dX14_isDeeper_26 (by decide) ?_
    refine g_iadd X dX14_isDeeper_27 ?_
    refine g_putI (ci := 12) 9 X cdX14 i_X14_isDeeper_X14 (by decide) k_X14_isDeeper_f118 rfl dX14_isDeeper_28 rfl hT3 (Or.inl rfl) rfl rfl rfl ?_
    obtain ⟨M4, hM4, hf⟩ := lw_e hf
    rw [← hM4]
    have hT5 : mT M4 x0 = 13 := by rw [hM4]; exact hT3
    refine g_iconst (v := (1 : Int32)) X dX14_isDeeper_31 (by decide) ?_
    cases hf
    refine g_eqQ hK ?_
    exact g_zret X hr (gnb (Or.inr rfl)) dX14_isDeeper_32
  · have hf := ife_t hc hf
    refine g_iconst (v := (0 : Int32)) X dX14_isDeeper_9 (by decide) ?_
    cases hf
    refine g_eqQ hK ?_
    exact g_zret X hr (gnb (Or.inl rfl)) dX14_isDeeper_10
set_option maxHeartbeats 4000000 in
set_option maxRecDepth 100000 in
theorem m_X14_isDeeper (l : Launch) {D : va_G} {cy : Nat → ClassId} {B : Nat} {H0 : Heap} {Z : Nat → Nat} {M M1 : gMem} {x0 : Nat} {r : Int32} (hf : f_X14_isDeeper M x0 = some (r, M1)) : Met l yX14_isDeeper wsX14_isDeeper rX14_isDeeper (va_Pc (Value.ref x0 :: List.map gv []) (gPre D cy B H0 (gSt Z B H0) M)) (gQ D cy B H0 (some (vI r)) M1) 0 0 (gA B) := by
  refine Met.ofW (cc := cX14_isDeeper) (maxL := 1) (ret := (some .boolean)) (by decide) rfl ?_
  intro p e s m args below meth c s₁ Bd hml hv
  obtain ⟨rfl, hW, hKK, hFs⟩ := hv
  have X : gX p s m _ meth c D cy B (gSt Z B H0) RX14 cX14_isDeeper wsX14_isDeeper 1 := ⟨Bd.exec, Bd.bytes, atoms_spec (ws := wsX14_isDeeper) Bd.pre, findClass_of_methodNamed Bd.named, hml, hKK, by rw [hW.1]; exact hW.2.1, Bd.notSynchronized, hFs⟩
  have hr := Bd.returns
  have hl := lv_entry ([.ref x0]) (n := 1) (Nat.le_of_ble_eq_true rfl)
  show W p l e rX14_isDeeper s m _ below meth c s.heap [] 0 0 _ (entryFrame m ([.ref x0] : List Value).toArray 1)
  rw [lg_entry_eq]
  generalize (lg_sl ([.ref x0]) ++ List.replicate (1 - (lg_sl ([.ref x0])).length) Slot.unset).toArray = ls at hl ⊢
  have hl : lv_has ls 1 (List.map gq [(0, vR (some x0))]) := hl
  exact t_X14_isDeeper_0 X hr _ _ _ hf rfl s.heap [] ls hW va_S.rf (lv_has_sub hl (lvsub_of _ _ [0] rfl))
/-! ## TideLotsModel.isNamed(I)Z -/
theorem dX14_isNamed_0 : decode cX14_isNamed 0 = .ok (.aload_n 0, 1) := by decide +kernel
theorem dX14_isNamed_1 : decode cX14_isNamed 1 = .ok (.aload_n 0, 1) := by decide +kernel
theorem dX14_isNamed_2 : decode cX14_isNamed 2 = .ok (.getfield 17, 3) := by decide +kernel
theorem dX14_isNamed_5 : decode cX14_isNamed 5 = .ok (.aload_n 0, 1) := by decide +kernel
theorem dX14_isNamed_6 : decode cX14_isNamed 6 = .ok (.getfield 118, 3) := by decide +kernel
theorem dX14_isNamed_9 : decode cX14_isNamed 9 = .ok (.iaload, 1) := by decide +kernel
theorem dX14_isNamed_10 : decode cX14_isNamed 10 = .ok (.invokevirtual 180, 3) := by decide +kernel
theorem dX14_isNamed_13 : decode cX14_isNamed 13 = .ok (.aload_n 0, 1) := by decide +kernel
theorem dX14_isNamed_14 : decode cX14_isNamed 14 = .ok (.dup, 1) := by decide +kernel
theorem dX14_isNamed_15 : decode cX14_isNamed 15 = .ok (.getfield 118, 3) := by decide +kernel
theorem dX14_isNamed_18 : decode cX14_isNamed 18 = .ok (.iconst 1, 1) := by decide +kernel
theorem dX14_isNamed_19 : decode cX14_isNamed 19 = .ok (.iadd, 1) := by decide +kernel
theorem dX14_isNamed_20 : decode cX14_isNamed 20 = .ok (.putfield 118, 3) := by decide +kernel
theorem dX14_isNamed_23 : decode cX14_isNamed 23 = .ok (.aload_n 0, 1) := by decide +kernel
theorem dX14_isNamed_24 : decode cX14_isNamed 24 = .ok (.getfield 39, 3) := by decide +kernel
theorem dX14_isNamed_27 : decode cX14_isNamed 27 = .ok (.getfield 190, 3) := by decide +kernel
theorem dX14_isNamed_30 : decode cX14_isNamed 30 = .ok (.aload_n 0, 1) := by decide +kernel
theorem dX14_isNamed_31 : decode cX14_isNamed 31 = .ok (.getfield 39, 3) := by decide +kernel
theorem dX14_isNamed_34 : decode cX14_isNamed 34 = .ok (.getfield 193, 3) := by decide +kernel
theorem dX14_isNamed_37 : decode cX14_isNamed 37 = .ok (.aload_n 0, 1) := by decide +kernel
theorem dX14_isNamed_38 : decode cX14_isNamed 38 = .ok (.getfield 39, 3) := by decide +kernel
theorem dX14_isNamed_41 : decode cX14_isNamed 41 = .ok (.getfield 130, 3) := by decide +kernel
theorem dX14_isNamed_44 : decode cX14_isNamed 44 = .ok (.iastore, 1) := by decide +kernel
theorem dX14_isNamed_45 : decode cX14_isNamed 45 = .ok (.aload_n 0, 1) := by decide +kernel
theorem dX14_isNamed_46 : decode cX14_isNamed 46 = .ok (.getfield 39, 3) := by decide +kernel
theorem dX14_isNamed_49 : decode cX14_isNamed 49 = .ok (.dup, 1) := by decide +kernel
theorem dX14_isNamed_50 : decode cX14_isNamed 50 = .ok (.getfield 193, 3) := by decide +kernel
theorem dX14_isNamed_53 : decode cX14_isNamed 53 = .ok (.iconst 1, 1) := by decide +kernel
theorem dX14_isNamed_54 : decode cX14_isNamed 54 = .ok (.iadd, 1) := by decide +kernel
theorem dX14_isNamed_55 : decode cX14_isNamed 55 = .ok (.putfield 193, 3) := by decide +kernel
theorem dX14_isNamed_58 : decode cX14_isNamed 58 = .ok (.aload_n 0, 1) := by decide +kernel
theorem dX14_isNamed_59 : decode cX14_isNamed 59 = .ok (.aload_n 0, 1) := by decide +kernel
theorem dX14_isNamed_60 : decode cX14_isNamed 60 = .ok (.getfield 118, 3) := by decide +kernel
theorem dX14_isNamed_63 : decode cX14_isNamed 63 = .ok (.invokevirtual 180, 3) := by decide +kernel
theorem dX14_isNamed_66 : decode cX14_isNamed 66 = .ok (.aload_n 0, 1) := by decide +kernel
theorem dX14_isNamed_67 : decode cX14_isNamed 67 = .ok (.bipush 40, 2) := by decide +kernel
theorem dX14_isNamed_69 : decode cX14_isNamed 69 = .ok (.iload_n 1, 1) := by decide +kernel
theorem dX14_isNamed_70 : decode cX14_isNamed 70 = .ok (.invokevirtual 149, 3) := by decide +kernel
theorem dX14_isNamed_73 : decode cX14_isNamed 73 = .ok (.ireturn, 1) := by decide +kernel
set_option maxRecDepth 20000 in
theorem ggX14_isNamed_X14_put : GoodIn wsX14_isNamed wsX14_put := goodIn_2 24 (goodIn_rr wsB_X14_isNamed_in _ [(1, 7), (1, 2), (2, 0), (2, 1), (2, 2), (2, 3), (2, 4), (2, 5), (2, 6), (2, 7), (2, 8), (2, 9), (2, 10), (2, 11), (2, 12), (2, 13), (2, 14), (3, 0), (3, 1), (3, 2), (3, 3), (3, 4), (3, 5), (3, 6)] (by decide +kernel) (by decide +kernel)) (goodIn_rr wsB_X14_isNamed_in _ [(3, 7), (3, 8), (3, 9), (3, 10), (3, 11), (3, 12), (3, 13), (3, 14), (3, 15), (3, 16), (3, 17), (3, 18), (3, 19), (3, 20), (3, 21), (3, 22), (3, 23), (3, 24)] (by decide +kernel) (by decide +kernel))
set_option maxRecDepth 20000 in
theorem gX14_isNamed_X14_put : GoodIn wsX14_isNamed (wsV RX14 180 RX14 yX14_put wsX14_put) := goodIn_app (goodIn_rr wsB_X14_isNamed_in _ [(1, 3), (1, 4), (1, 5), (1, 6)] (by decide +kernel) (by decide +kernel)) ggX14_isNamed_X14_put
set_option maxRecDepth 20000 in
theorem ggX14_isNamed_X14_eatAs : GoodIn wsX14_isNamed wsX14_eatAs := goodIn_rr wsB_X14_isNamed_in _ [(1, 11), (1, 12), (1, 1), (1, 13), (1, 14), (1, 15), (1, 6), (1, 16), (1, 17), (1, 18), (1, 19), (1, 20), (1, 0), (2, 0), (2, 1), (2, 2), (2, 3), (2, 4), (2, 5), (2, 6), (2, 7), (2, 8), (2, 9), (2, 10), (2, 11), (2, 12), (2, 13), (2, 14)] (by decide +kernel) (by decide +kernel)
set_option maxRecDepth 20000 in
theorem gX14_isNamed_X14_eatAs : GoodIn wsX14_isNamed (wsV RX14 149 RX14 yX14_eatAs wsX14_eatAs) := goodIn_app (goodIn_rr wsB_X14_isNamed_in _ [(1, 8), (1, 9), (1, 10), (1, 6)] (by decide +kernel) (by decide +kernel)) ggX14_isNamed_X14_eatAs
theorem k_X14_isNamed_f17 : Cond.fieldLink RX14 17 "TideLotsModel" "kind" "[I" ∈ wsX14_isNamed := by decide +kernel
theorem i_X14_isNamed_X14 : ∀ w ∈ u_ws RX14 TX14 15, w ∈ wsX14_isNamed := by decide +kernel
theorem k_X14_isNamed_f118 : Cond.fieldLink RX14 118 "TideLotsModel" "token" "I" ∈ wsX14_isNamed := by decide +kernel
theorem k_X14_isNamed_f39 : Cond.fieldLink RX14 39 "TideLotsModel" "reading" "LTideLotsModel$Told;" ∈ wsX14_isNamed := by decide +kernel
theorem kn_X14_190 : Cond.fieldLinkNest "TideLotsModel" (190 : Nat) "TideLotsModel$Told" "open" "[I" "TideLotsModel" ∈ gNs := by decide +kernel
theorem i_X14_isNamed_X13 : ∀ w ∈ u_ws RX13 TX13 25, w ∈ wsX14_isNamed := by decide +kernel
theorem kn_X14_193 : Cond.fieldLinkNest "TideLotsModel" (193 : Nat) "TideLotsModel$Told" "opens" "I" "TideLotsModel" ∈ gNs := by decide +kernel
abbrev rX14_isNamed : Room := { frames := 3, cells := 0, slots := 0, locals := 64 }
noncomputable def b_X14_isNamed_0 (M : gMem) (x0 : Nat) (x1 : Int32) : Option (Int32 × gMem) :=
  ck (mT M x0 = 13) <| dr ((mR M x0 4)) fun a2 => ck (mT M a2 = 20) <| ck (inb (mI M x0 9) (mL M a2)) <| bd (f_X14_put M x0 ((mI M a2 ((mI M x0 9)).toNatClampNeg))) fun _ M5 => ck (mT M5 x0 = 13) <| lw (wI M5 x0 9 (((mI M5 x0 9) + (1 : Int32)))) fun M7 => dr ((mR M7 x0 12)) fun a9 => ck (mT M7 a9 = 12) <| dr ((mR M7 a9 23)) fun a11 => ck (mT M7 a11 = 20) <| ck (inb (mI M7 a9 24) (mL M7 a11)) <| lw (wI M7 a11 ((mI M7 a9 24)).toNatClampNeg ((mI M7 a9 22))) fun M14 => dr ((mR M14 x0 12)) fun a18 => ck (mT M14 a18 = 12) <| lw (wI M14 a18 24 (((mI M14 a18 24) + (1 : Int32)))) fun M20 => bd (f_X14_put M20 x0 ((mI M20 x0 9))) fun _ M25 => ck (mT M25 x0 = 13) <| bd (f_X14_eatAs M25 x0 ((40 : Int32)) x1) fun r26 M26 => ck (r26 = 0 ∨ r26 = 1) <| some (r26, M26)
noncomputable def f_X14_isNamed (M : gMem) (x0 : Nat) (x1 : Int32) : Option (Int32 × gMem) :=
  b_X14_isNamed_0 M x0 x1
set_option maxHeartbeats 4000000 in
set_option maxRecDepth 100000 in
theorem t_X14_isNamed_0 (X : gX p s m args meth c D cy B (gSt Z B H0) RX14 cX14_isNamed wsX14_isNamed 2) (hr : meth.sig.returnType = (some .boolean)) {Q : State → Prop} : ∀ (M : gMem) (x0 : Nat) (x1 : Int32) (z : Int32 × gMem), b_X14_isNamed_0 M x0 x1 = some z → (fun (r : Int32 × gMem) => Q = gMQ below D cy B H0 args s 0 0 (some (vI r.1)) r.2) z → gGo p l e rX14_isNamed s m args below meth c D cy B H0 2 0 0 Q 0 [(0, vR (some x0)), (1, vI x1)] [] M := by
  intro M x0 x1 z hf hK
  unfold b_X14_isNamed_0 at hf
  refine g_aload_n X dX14_isNamed_0 rfl rfl ?_
  refine g_aload_n X dX14_isNamed_1 rfl rfl ?_
  obtain ⟨hT1, hf⟩ := ck_e hf
  refine g_get (ci := 12) (v := vR (mR M x0 4)) 4 X cdX14 i_X14_isNamed_X14 (by decide) k_X14_isNamed_f17 rfl dX14_isNamed_2 rfl hT1 rfl ?_
  refine g_aload_n X dX14_isNamed_5 rfl rfl ?_
  refine g_get (ci := 12) (v := vI (mI M x0 9)) 9 X cdX14 i_X14_isNamed_X14 (by decide) k_X14_isNamed_f118 rfl dX14_isNamed_6 rfl hT1 rfl ?_
  obtain ⟨a2, ha2, hf⟩ := dr_e hf
  obtain ⟨hT3, hf⟩ := ck_e hf
  obtain ⟨hg4, hf⟩ := ck_e hf
  refine g_iald X dX14_isNamed_9 ha2 hT3 hg4 ?_
  obtain ⟨r5, M5, hq5, hf⟩ := bd_e hf
  refine g_callV (ci := 12) (b := x0) (As := [vI (mI M a2 ((mI M x0 9)).toNatClampNeg)]) (st := []) (v := none) (M1 := M5) X (m_X14_put l hq5) (cwV 1 X.2.2.1 gX14_isNamed_X14_put rfl rfl rfl (by decide +kernel) ⟨Nat.le_of_ble_eq_true rfl, Nat.le_of_ble_eq_true rfl⟩) rfl rfl rfl hT1 (by decide) rfl (Nat.le_of_ble_eq_true rfl) dX14_isNamed_10 ⟨by decide, by decide⟩ ?_
  refine g_aload_n X dX14_isNamed_13 rfl rfl ?_
  refine g_dup X dX14_isNamed_14 rfl ?_
  obtain ⟨hT6, hf⟩ := ck_e hf
  refine g_get (ci := 12) (v := vI (mI M5 x0 9)) 9 X cdX14 i_X14_isNamed_X14 (by decide) k_X14_isNamed_f118 rfl dX14_isNamed_15 rfl hT6 rfl ?_
  refine g_iconst (v := (1 : Int32)) X dX14_isNamed_18 (by decide) ?_
  refine g_iadd X dX14_isNamed_19 ?_
  refine g_putI (ci := 12) 9 X cdX14 i_X14_isNamed_X14 (by decide) k_X14_isNamed_f118 rfl dX14_isNamed_20 rfl hT6 (Or.inl rfl) rfl rfl rfl ?_
  obtain ⟨M7, hM7, hf⟩ := lw_e hf
  rw [← hM7]
  have hT8 : mT M7 x0 = 13 := by rw [hM7]; exact hT6
  refine g_aload_n X dX14_isNamed_23 rfl rfl ?_
  refine g_get (ci := 12) (v := vR (mR M7 x0 12)) 12 X cdX14 i_X14_isNamed_X14 (by decide) k_X14_isNamed_f39 rfl dX14_isNamed_24 rfl hT8 rfl ?_
  obtain ⟨a9, ha9, hf⟩ := dr_e hf
  obtain ⟨hT10, hf⟩ := ck_e hf
  refine g_getN (ci := 11) (w := vR (mR M7 a9 23)) 23 X cdX13 i_X14_isNamed_X13 (by decide) (gNw X _ kn_X14_190) rfl dX14_isNamed_27 ha9 hT10 rfl ?_
  refine g_aload_n X dX14_isNamed_30 rfl rfl ?_
  refine g_get (ci := 12) (v := vR (mR M7 x0 12)) 12 X cdX14 i_X14_isNamed_X14 (by decide) k_X14_isNamed_f39 rfl dX14_isNamed_31 rfl hT8 rfl ?_
  refine g_getN (ci := 11) (w := vI (mI M7 a9 24)) 24 X cdX13 i_X14_isNamed_X13 (by decide) (gNw X _ kn_X14_193) rfl dX14_isNamed_34 ha9 hT10 rfl ?_
  refine g_aload_n X dX14_isNamed_37 rfl rfl ?_
  refine g_get (ci := 12) (v := vR (mR M7 x0 12)) 12 X cdX14 i_X14_isNamed_X14 (by decide) k_X14_isNamed_f39 rfl dX14_isNamed_38 rfl hT8 rfl ?_
  refine g_getN (ci := 11) (w := vI (mI M7 a9 22)) 22 X cdX13 i_X14_isNamed_X13 (by decide) (gNw X _ kn_X14_130) rfl dX14_isNamed_41 ha9 hT10 rfl ?_
  obtain ⟨a11, ha11, hf⟩ := dr_e hf
  obtain ⟨hT12, hf⟩ := ck_e hf
  obtain ⟨hg13, hf⟩ := ck_e hf
  refine g_iast X dX14_isNamed_44 ha11 hT12 hg13 ?_
  obtain ⟨M14, hM14, hf⟩ := lw_e hf
  rw [← hM14]
  have hT15 : mT M14 x0 = 13 := by rw [hM14]; exact hT8
  have hT16 : mT M14 a9 = 12 := by rw [hM14]; exact hT10
  have hT17 : mT M14 a11 = 20 := by rw [hM14]; exact hT12
  refine g_aload_n X dX14_isNamed_45 rfl rfl ?_
  refine g_get (ci := 12) (v := vR (mR M14 x0 12)) 12 X cdX14 i_X14_isNamed_X14 (by decide) k_X14_isNamed_f39 rfl dX14_isNamed_46 rfl hT15 rfl ?_
  refine g_dup X dX14_isNamed_49 rfl ?_
  obtain ⟨a18, ha18, hf⟩ := dr_e hf
  obtain ⟨hT19, hf⟩ := ck_e hf
  refine g_getN (ci := 11) (w := vI (mI M14 a18 24)) 24 X cdX13 i_X14_isNamed_X13 (by decide) (gNw X _ kn_X14_193) rfl dX14_isNamed_50 ha18 hT19 rfl ?_
  refine g_iconst (v := (1 : Int32)) X dX14_isNamed_53 (by decide) ?_
  refine g_iadd X dX14_isNamed_54 ?_
  refine g_putIN (ci := 11) 24 X cdX13 i_X14_isNamed_X13 (by decide) (gNw X _ kn_X14_193) rfl dX14_isNamed_55 ha18 hT19 rfl rfl rfl rfl ?_
  obtain ⟨M20, hM20, hf⟩ := lw_e hf
  rw [← hM20]
  have hT21 : mT M20 x0 = 13 := by rw [hM20]; exact hT15
  have hT22 : mT M20 a9 = 12 := by rw [hM20]; exact hT16
  have hT23 : mT M20 a11 = 20 := by rw [hM20]; exact hT17
  have hT24 : mT M20 a18 = 12 := by rw [hM20]; exact hT19
  refine g_aload_n X dX14_isNamed_58 rfl rfl ?_
  refine g_aload_n X dX14_isNamed_59 rfl rfl ?_
  refine g_get (ci := 12) (v := vI (mI M20 x0 9)) 9 X cdX14 i_X14_isNamed_X14 (by decide) k_X14_isNamed_f118 rfl dX14_isNamed_60 rfl hT21 rfl ?_
  obtain ⟨r25, M25, hq25, hf⟩ := bd_e hf
  refine g_callV (ci := 12) (b := x0) (As := [vI (mI M20 x0 9)]) (st := []) (v := none) (M1 := M25) X (m_X14_put l hq25) (cwV 1 X.2.2.1 gX14_isNamed_X14_put rfl rfl rfl (by decide +kernel) ⟨Nat.le_of_ble_eq_true rfl, Nat.le_of_ble_eq_true rfl⟩) rfl rfl rfl hT21 (by decide) rfl (Nat.le_of_ble_eq_true rfl) dX14_isNamed_63 ⟨by decide, by decide⟩ ?_
  refine g_aload_n X dX14_isNamed_66 rfl rfl ?_
  refine g_bipush (v := (40 : Int32)) X dX14_isNamed_67 (by decide) ?_
  refine g_iload_n X dX14_isNamed_69 rfl rfl ?_
  obtain ⟨hT27, hf⟩ := ck_e hf
  obtain ⟨r26, M26, hq26, hf⟩ := bd_e hf
  refine g_callV (ci := 12) (b := x0) (As := [vI (40 : Int32), vI x1]) (st := []) (v := some (vI r26)) (M1 := M26) X (m_X14_eatAs l hq26) (cwV 2 X.2.2.1 gX14_isNamed_X14_eatAs rfl rfl rfl (by decide +kernel) ⟨Nat.le_of_ble_eq_true rfl, Nat.le_of_ble_eq_true rfl⟩) rfl rfl rfl hT27 (by decide) rfl (Nat.le_of_ble_eq_true rfl) dX14_isNamed_70 ⟨by decide, by decide⟩ ?_
  obtain ⟨hg28, hf⟩ := ck_e hf
  cases hf
  refine g_eqQ hK ?_
  exact g_zret X hr (gnb hg28) dX14_isNamed_73
set_option maxHeartbeats 4000000 in
set_option maxRecDepth 100000 in
theorem m_X14_isNamed (l : Launch) {D : va_G} {cy : Nat → ClassId} {B : Nat} {H0 : Heap} {Z : Nat → Nat} {M M1 : gMem} {x0 : Nat} {x1 : Int32} {r : Int32} (hf : f_X14_isNamed M x0 x1 = some (r, M1)) : Met l yX14_isNamed wsX14_isNamed rX14_isNamed (va_Pc (Value.ref x0 :: List.map gv [vI x1]) (gPre D cy B H0 (gSt Z B H0) M)) (gQ D cy B H0 (some (vI r)) M1) 0 0 (gA B) := by
  refine Met.ofW (cc := cX14_isNamed) (maxL := 2) (ret := (some .boolean)) (by decide) rfl ?_
  intro p e s m args below meth c s₁ Bd hml hv
  obtain ⟨rfl, hW, hKK, hFs⟩ := hv
  have X : gX p s m _ meth c D cy B (gSt Z B H0) RX14 cX14_isNamed wsX14_isNamed 2 := ⟨Bd.exec, Bd.bytes, atoms_spec (ws := wsX14_isNamed) Bd.pre, findClass_of_methodNamed Bd.named, hml, hKK, by rw [hW.1]; exact hW.2.1, Bd.notSynchronized, hFs⟩
  have hr := Bd.returns
  have hl := lv_entry ([.ref x0, .int x1]) (n := 2) (Nat.le_of_ble_eq_true rfl)
  show W p l e rX14_isNamed s m _ below meth c s.heap [] 0 0 _ (entryFrame m ([.ref x0, .int x1] : List Value).toArray 2)
  rw [lg_entry_eq]
  generalize (lg_sl ([.ref x0, .int x1]) ++ List.replicate (2 - (lg_sl ([.ref x0, .int x1])).length) Slot.unset).toArray = ls at hl ⊢
  have hl : lv_has ls 2 (List.map gq [(0, vR (some x0)), (1, vI x1)]) := hl
  exact t_X14_isNamed_0 X hr _ _ _ _ hf rfl s.heap [] ls hW va_S.rf (lv_has_sub hl (lvsub_of _ _ [0, 1] rfl))
/-! ## TideLotsModel.numberAt(I)I -/
theorem dX14_numberAt_0 : decode cX14_numberAt 0 = .ok (.iconst 0, 1) := by decide +kernel
theorem dX14_numberAt_1 : decode cX14_numberAt 1 = .ok (.istore_n 2, 1) := by decide +kernel
theorem dX14_numberAt_2 : decode cX14_numberAt 2 = .ok (.iconst 0, 1) := by decide +kernel
theorem dX14_numberAt_3 : decode cX14_numberAt 3 = .ok (.istore_n 3, 1) := by decide +kernel
theorem dX14_numberAt_4 : decode cX14_numberAt 4 = .ok (.iload_n 3, 1) := by decide +kernel
theorem dX14_numberAt_5 : decode cX14_numberAt 5 = .ok (.aload_n 0, 1) := by decide +kernel
theorem dX14_numberAt_6 : decode cX14_numberAt 6 = .ok (.getfield 23, 3) := by decide +kernel
theorem dX14_numberAt_9 : decode cX14_numberAt 9 = .ok (.iload_n 1, 1) := by decide +kernel
theorem dX14_numberAt_10 : decode cX14_numberAt 10 = .ok (.iaload, 1) := by decide +kernel
theorem dX14_numberAt_11 : decode cX14_numberAt 11 = .ok (.if_icmp .ge 31, 3) := by decide +kernel
theorem dX14_numberAt_14 : decode cX14_numberAt 14 = .ok (.bipush 10, 2) := by decide +kernel
theorem dX14_numberAt_16 : decode cX14_numberAt 16 = .ok (.iload_n 2, 1) := by decide +kernel
theorem dX14_numberAt_17 : decode cX14_numberAt 17 = .ok (.imul, 1) := by decide +kernel
theorem dX14_numberAt_18 : decode cX14_numberAt 18 = .ok (.aload_n 0, 1) := by decide +kernel
theorem dX14_numberAt_19 : decode cX14_numberAt 19 = .ok (.getfield 9, 3) := by decide +kernel
theorem dX14_numberAt_22 : decode cX14_numberAt 22 = .ok (.aload_n 0, 1) := by decide +kernel
theorem dX14_numberAt_23 : decode cX14_numberAt 23 = .ok (.getfield 20, 3) := by decide +kernel
theorem dX14_numberAt_26 : decode cX14_numberAt 26 = .ok (.iload_n 1, 1) := by decide +kernel
theorem dX14_numberAt_27 : decode cX14_numberAt 27 = .ok (.iaload, 1) := by decide +kernel
theorem dX14_numberAt_28 : decode cX14_numberAt 28 = .ok (.iload_n 3, 1) := by decide +kernel
theorem dX14_numberAt_29 : decode cX14_numberAt 29 = .ok (.iadd, 1) := by decide +kernel
theorem dX14_numberAt_30 : decode cX14_numberAt 30 = .ok (.iaload, 1) := by decide +kernel
theorem dX14_numberAt_31 : decode cX14_numberAt 31 = .ok (.iadd, 1) := by decide +kernel
theorem dX14_numberAt_32 : decode cX14_numberAt 32 = .ok (.bipush 48, 2) := by decide +kernel
theorem dX14_numberAt_34 : decode cX14_numberAt 34 = .ok (.isub, 1) := by decide +kernel
theorem dX14_numberAt_35 : decode cX14_numberAt 35 = .ok (.istore_n 2, 1) := by decide +kernel
theorem dX14_numberAt_36 : decode cX14_numberAt 36 = .ok (.iinc 3 1, 3) := by decide +kernel
theorem dX14_numberAt_39 : decode cX14_numberAt 39 = .ok (.goto (-35), 3) := by decide +kernel
theorem dX14_numberAt_42 : decode cX14_numberAt 42 = .ok (.iload_n 2, 1) := by decide +kernel
theorem dX14_numberAt_43 : decode cX14_numberAt 43 = .ok (.ireturn, 1) := by decide +kernel
theorem k_X14_numberAt_f23 : Cond.fieldLink RX14 23 "TideLotsModel" "many" "[I" ∈ wsX14_numberAt := by decide +kernel
theorem i_X14_numberAt_X14 : ∀ w ∈ u_ws RX14 TX14 15, w ∈ wsX14_numberAt := by decide +kernel
theorem k_X14_numberAt_f9 : Cond.fieldLink RX14 9 "TideLotsModel" "tape" "[I" ∈ wsX14_numberAt := by decide +kernel
theorem k_X14_numberAt_f20 : Cond.fieldLink RX14 20 "TideLotsModel" "from" "[I" ∈ wsX14_numberAt := by decide +kernel
abbrev rX14_numberAt : Room := { frames := 0, cells := 0, slots := 0, locals := 0 }
noncomputable def bb_X14_numberAt_4 (M : gMem) (x0 : Nat) (x1 : Int32) (x2 : Int32) (x3 : Int32) : Option ((gMem × Int32 × Int32) ⊕ (Int32 × gMem)) :=
  ck (mT M x0 = 13) <| dr ((mR M x0 6)) fun a2 => ck (mT M a2 = 20) <| ck (inb x1 (mL M a2)) <| (if (mI M a2 x1.toNatClampNeg) ≤ x3 then oI (some (x2, M)) else dr ((mR M x0 5)) fun a6 => ck (mT M a6 = 20) <| ck (inb x1 (mL M a6)) <| dr ((mR M x0 1)) fun a9 => ck (mT M a9 = 20) <| ck (inb ((mI M a6 x1.toNatClampNeg) + x3) (mL M a9)) <| some (.inl (M, ((((10 : Int32) * x2) + (mI M a9 (((mI M a6 x1.toNatClampNeg) + x3)).toNatClampNeg)) - (48 : Int32)), (x3 + (1 : Int32)))))
noncomputable def lp_X14_numberAt_4 (M : gMem) (x0 : Nat) (x1 : Int32) (x2 : Int32) (x3 : Int32) : Option (Int32 × gMem) :=
  lp (fun (q : gMem × Int32 × Int32) => bb_X14_numberAt_4 q.1 x0 x1 q.2.1 q.2.2) (M, x2, x3)
noncomputable def b_X14_numberAt_0 (M : gMem) (x0 : Nat) (x1 : Int32) : Option (Int32 × gMem) :=
  lp_X14_numberAt_4 M x0 x1 ((0 : Int32)) ((0 : Int32))
noncomputable def f_X14_numberAt (M : gMem) (x0 : Nat) (x1 : Int32) : Option (Int32 × gMem) :=
  b_X14_numberAt_0 M x0 x1
set_option maxHeartbeats 4000000 in
set_option maxRecDepth 100000 in
theorem tb_X14_numberAt_4 (X : gX p s m args meth c D cy B (gSt Z B H0) RX14 cX14_numberAt wsX14_numberAt 4) (hr : meth.sig.returnType = (some .int)) {Q : State → Prop} : ∀ (M : gMem) (x0 : Nat) (x1 : Int32) (x2 : Int32) (x3 : Int32) (z : (gMem × Int32 × Int32) ⊕ (Int32 × gMem)), bb_X14_numberAt_4 M x0 x1 x2 x3 = some z → (Sum.elim (fun (q : gMem × Int32 × Int32) => gGo p l e rX14_numberAt s m args below meth c D cy B H0 4 0 0 Q 4 [(0, vR (some x0)), (1, vI x1), (2, vI q.2.1), (3, vI q.2.2)] [] q.1) (fun (r : Int32 × gMem) => Q = gMQ below D cy B H0 args s 0 0 (some (vI r.1)) r.2)) z → gGo p l e rX14_numberAt s m args below meth c D cy B H0 4 0 0 Q 4 [(0, vR (some x0)), (1, vI x1), (2, vI x2), (3, vI x3)] [] M := by
  intro M x0 x1 x2 x3 z hf hK
  unfold bb_X14_numberAt_4 at hf
  refine g_iload_n X dX14_numberAt_4 rfl rfl ?_
  refine g_aload_n X dX14_numberAt_5 rfl rfl ?_
  obtain ⟨hT1, hf⟩ := ck_e hf
  refine g_get (ci := 12) (v := vR (mR M x0 6)) 6 X cdX14 i_X14_numberAt_X14 (by decide) k_X14_numberAt_f23 rfl dX14_numberAt_6 rfl hT1 rfl ?_
  refine g_iload_n X dX14_numberAt_9 rfl rfl ?_
  obtain ⟨a2, ha2, hf⟩ := dr_e hf
  obtain ⟨hT3, hf⟩ := ck_e hf
  obtain ⟨hg4, hf⟩ := ck_e hf
  refine g_iald X dX14_numberAt_10 ha2 hT3 hg4 ?_
  refine g_icmp_ge (tgt := 42) X dX14_numberAt_11 (by decide) (fun hc => ?_) (fun hc => ?_)
  · have hf := ife_t hc hf
    refine g_iload_n X dX14_numberAt_42 rfl rfl ?_
    obtain ⟨w5, hw5, hz5⟩ := oI_e hf
    subst hz5
    have hf := hw5
    cases hf
    refine g_eqQ hK ?_
    exact g_iret X hr dX14_numberAt_43
  · have hf := ife_f hc hf
    refine g_bipush (v := (10 : Int32)) X dX14_numberAt_14 (by decide) ?_
    refine g_iload_n X dX14_numberAt_16 rfl rfl ?_
    refine g_imul X dX14_numberAt_17 ?_
    refine g_aload_n X dX14_numberAt_18 rfl rfl ?_
    refine g_get (ci := 12) (v := vR (mR M x0 1)) 1 X cdX14 i_X14_numberAt_X14 (by decide) k_X14_numberAt_f9 rfl dX14_numberAt_19 rfl hT1 rfl ?_
    refine g_aload_n X dX14_numberAt_22 rfl rfl ?_
    refine g_get (ci := 12) (v := vR (mR M x0 5)) 5 X cdX14 i_X14_numberAt_X14 (by decide) k_X14_numberAt_f20 rfl dX14_numberAt_23 rfl hT1 rfl ?_
    refine g_iload_n X dX14_numberAt_26 rfl rfl ?_
    obtain ⟨a6, ha6, hf⟩ := dr_e hf
    obtain ⟨hT7, hf⟩ := ck_e hf
    obtain ⟨hg8, hf⟩ := ck_e hf
    refine g_iald X dX14_numberAt_27 ha6 hT7 hg8 ?_
    refine g_iload_n X dX14_numberAt_28 rfl rfl ?_
    refine g_iadd X dX14_numberAt_29 ?_
    obtain ⟨a9, ha9, hf⟩ := dr_e hf
    obtain ⟨hT10, hf⟩ := ck_e hf
    obtain ⟨hg11, hf⟩ := ck_e hf
    refine g_iald X dX14_numberAt_30 ha9 hT10 hg11 ?_
    refine g_iadd X dX14_numberAt_31 ?_
    refine g_bipush (v := (48 : Int32)) X dX14_numberAt_32 (by decide) ?_
    refine g_isub X dX14_numberAt_34 ?_
    refine g_istore_n (lv' := [(2, vI ((((10 : Int32) * x2) + (mI M a9 (((mI M a6 x1.toNatClampNeg) + x3)).toNatClampNeg)) - (48 : Int32))), (0, vR (some x0)), (1, vI x1), (3, vI x3)]) X dX14_numberAt_35 rfl (by decide) rfl ?_
    refine g_iinc (v := (1 : Int32)) (lv' := [(3, vI (x3 + (1 : Int32))), (2, vI ((((10 : Int32) * x2) + (mI M a9 (((mI M a6 x1.toNatClampNeg) + x3)).toNatClampNeg)) - (48 : Int32))), (0, vR (some x0)), (1, vI x1)]) X dX14_numberAt_36 rfl (by decide) (by decide) rfl ?_
    refine g_goto (tgt := 4) X dX14_numberAt_39 (by decide) ?_
    cases hf
    refine g_sub (lvsub_of _ _ [2, 3, 1, 0] rfl) ?_
    exact hK
set_option maxHeartbeats 4000000 in
set_option maxRecDepth 100000 in
theorem tl_X14_numberAt_4 (X : gX p s m args meth c D cy B (gSt Z B H0) RX14 cX14_numberAt wsX14_numberAt 4) (hr : meth.sig.returnType = (some .int)) {Q : State → Prop} : ∀ (M : gMem) (x0 : Nat) (x1 : Int32) (x2 : Int32) (x3 : Int32) (z : Int32 × gMem), lp_X14_numberAt_4 M x0 x1 x2 x3 = some z → (fun (r : Int32 × gMem) => Q = gMQ below D cy B H0 args s 0 0 (some (vI r.1)) r.2) z → gGo p l e rX14_numberAt s m args below meth c D cy B H0 4 0 0 Q 4 [(0, vR (some x0)), (1, vI x1), (2, vI x2), (3, vI x3)] [] M := by
  intro M x0 x1 x2 x3 z hf hK
  refine lp_ind (P := (fun (q : gMem × Int32 × Int32) (z : Int32 × gMem) => (fun (r : Int32 × gMem) => Q = gMQ below D cy B H0 args s 0 0 (some (vI r.1)) r.2) z → gGo p l e rX14_numberAt s m args below meth c D cy B H0 4 0 0 Q 4 [(0, vR (some x0)), (1, vI x1), (2, vI q.2.1), (3, vI q.2.2)] [] q.1)) (fun q z hq => ?_) _ _ hf hK
  intro hK
  obtain ⟨w, hw, hm⟩ := hq
  refine tb_X14_numberAt_4 X hr _ _ _ _ _ w hw ?_
  cases w with
  | inl a => exact hm hK
  | inr b => cases hm; exact hK
set_option maxHeartbeats 4000000 in
set_option maxRecDepth 100000 in
theorem t_X14_numberAt_0 (X : gX p s m args meth c D cy B (gSt Z B H0) RX14 cX14_numberAt wsX14_numberAt 4) (hr : meth.sig.returnType = (some .int)) {Q : State → Prop} : ∀ (M : gMem) (x0 : Nat) (x1 : Int32) (z : Int32 × gMem), b_X14_numberAt_0 M x0 x1 = some z → (fun (r : Int32 × gMem) => Q = gMQ below D cy B H0 args s 0 0 (some (vI r.1)) r.2) z → gGo p l e rX14_numberAt s m args below meth c D cy B H0 4 0 0 Q 0 [(0, vR (some x0)), (1, vI x1)] [] M := by
  intro M x0 x1 z hf hK
  unfold b_X14_numberAt_0 at hf
  refine g_iconst (v := (0 : Int32)) X dX14_numberAt_0 (by decide) ?_
  refine g_istore_n (lv' := [(2, vI (0 : Int32)), (0, vR (some x0)), (1, vI x1)]) X dX14_numberAt_1 rfl (by decide) rfl ?_
  refine g_iconst (v := (0 : Int32)) X dX14_numberAt_2 (by decide) ?_
  refine g_istore_n (lv' := [(3, vI (0 : Int32)), (2, vI (0 : Int32)), (0, vR (some x0)), (1, vI x1)]) X dX14_numberAt_3 rfl (by decide) rfl ?_
  refine g_sub (lvsub_of _ _ [2, 3, 1, 0] rfl) ?_
  exact tl_X14_numberAt_4 X hr _ _ _ _ _ _ hf hK
set_option maxHeartbeats 4000000 in
set_option maxRecDepth 100000 in
theorem m_X14_numberAt (l : Launch) {D : va_G} {cy : Nat → ClassId} {B : Nat} {H0 : Heap} {Z : Nat → Nat} {M M1 : gMem} {x0 : Nat} {x1 : Int32} {r : Int32} (hf : f_X14_numberAt M x0 x1 = some (r, M1)) : Met l yX14_numberAt wsX14_numberAt rX14_numberAt (va_Pc (Value.ref x0 :: List.map gv [vI x1]) (gPre D cy B H0 (gSt Z B H0) M)) (gQ D cy B H0 (some (vI r)) M1) 0 0 (gA B) := by
  refine Met.ofW (cc := cX14_numberAt) (maxL := 4) (ret := (some .int)) (by decide) rfl ?_
  intro p e s m args below meth c s₁ Bd hml hv
  obtain ⟨rfl, hW, hKK, hFs⟩ := hv
  have X : gX p s m _ meth c D cy B (gSt Z B H0) RX14 cX14_numberAt wsX14_numberAt 4 := ⟨Bd.exec, Bd.bytes, atoms_spec (ws := wsX14_numberAt) Bd.pre, findClass_of_methodNamed Bd.named, hml, hKK, by rw [hW.1]; exact hW.2.1, Bd.notSynchronized, hFs⟩
  have hr := Bd.returns
  have hl := lv_entry ([.ref x0, .int x1]) (n := 4) (Nat.le_of_ble_eq_true rfl)
  show W p l e rX14_numberAt s m _ below meth c s.heap [] 0 0 _ (entryFrame m ([.ref x0, .int x1] : List Value).toArray 4)
  rw [lg_entry_eq]
  generalize (lg_sl ([.ref x0, .int x1]) ++ List.replicate (4 - (lg_sl ([.ref x0, .int x1])).length) Slot.unset).toArray = ls at hl ⊢
  have hl : lv_has ls 4 (List.map gq [(0, vR (some x0)), (1, vI x1)]) := hl
  exact t_X14_numberAt_0 X hr _ _ _ _ hf rfl s.heap [] ls hW va_S.rf (lv_has_sub hl (lvsub_of _ _ [0, 1] rfl))
end
