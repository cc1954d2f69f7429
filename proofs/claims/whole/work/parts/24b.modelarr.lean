section
variable {p : Program} {l : Launch} {e : Env} {s : State} {m : MethodId} {args : Array Value} {below : List Frame} {meth : Method} {c : Code} {D : va_G} {cy : Nat → ClassId} {B : Nat} {H0 : Heap} {Z : Nat → Nat}
/-! ## TideLotsModel.feed(IIIII)I -/
theorem dX14_feed_0 : decode cX14_feed 0 = .ok (.aload_n 0, 1) := by decide +kernel
theorem dX14_feed_1 : decode cX14_feed 1 = .ok (.iconst 0, 1) := by decide +kernel
theorem dX14_feed_2 : decode cX14_feed 2 = .ok (.putfield 57, 3) := by decide +kernel
theorem dX14_feed_5 : decode cX14_feed 5 = .ok (.aload_n 0, 1) := by decide +kernel
theorem dX14_feed_6 : decode cX14_feed 6 = .ok (.getfield 79, 3) := by decide +kernel
theorem dX14_feed_9 : decode cX14_feed 9 = .ok (.sipush 1980, 3) := by decide +kernel
theorem dX14_feed_12 : decode cX14_feed 12 = .ok (.if_icmp .le 9, 3) := by decide +kernel
theorem dX14_feed_15 : decode cX14_feed 15 = .ok (.aload_n 0, 1) := by decide +kernel
theorem dX14_feed_16 : decode cX14_feed 16 = .ok (.iconst 1, 1) := by decide +kernel
theorem dX14_feed_17 : decode cX14_feed 17 = .ok (.invokevirtual 276, 3) := by decide +kernel
theorem dX14_feed_20 : decode cX14_feed 20 = .ok (.ireturn, 1) := by decide +kernel
theorem dX14_feed_21 : decode cX14_feed 21 = .ok (.iconst 5, 1) := by decide +kernel
theorem dX14_feed_22 : decode cX14_feed 22 = .ok (.newarray .int, 2) := by decide +kernel
theorem dX14_feed_24 : decode cX14_feed 24 = .ok (.dup, 1) := by decide +kernel
theorem dX14_feed_25 : decode cX14_feed 25 = .ok (.iconst 0, 1) := by decide +kernel
theorem dX14_feed_26 : decode cX14_feed 26 = .ok (.iload_n 1, 1) := by decide +kernel
theorem dX14_feed_27 : decode cX14_feed 27 = .ok (.iastore, 1) := by decide +kernel
theorem dX14_feed_28 : decode cX14_feed 28 = .ok (.dup, 1) := by decide +kernel
theorem dX14_feed_29 : decode cX14_feed 29 = .ok (.iconst 1, 1) := by decide +kernel
theorem dX14_feed_30 : decode cX14_feed 30 = .ok (.iload_n 2, 1) := by decide +kernel
theorem dX14_feed_31 : decode cX14_feed 31 = .ok (.iastore, 1) := by decide +kernel
theorem dX14_feed_32 : decode cX14_feed 32 = .ok (.dup, 1) := by decide +kernel
theorem dX14_feed_33 : decode cX14_feed 33 = .ok (.iconst 2, 1) := by decide +kernel
theorem dX14_feed_34 : decode cX14_feed 34 = .ok (.iload_n 3, 1) := by decide +kernel
theorem dX14_feed_35 : decode cX14_feed 35 = .ok (.iastore, 1) := by decide +kernel
theorem dX14_feed_36 : decode cX14_feed 36 = .ok (.dup, 1) := by decide +kernel
theorem dX14_feed_37 : decode cX14_feed 37 = .ok (.iconst 3, 1) := by decide +kernel
theorem dX14_feed_38 : decode cX14_feed 38 = .ok (.iload 4, 2) := by decide +kernel
theorem dX14_feed_40 : decode cX14_feed 40 = .ok (.iastore, 1) := by decide +kernel
theorem dX14_feed_41 : decode cX14_feed 41 = .ok (.dup, 1) := by decide +kernel
theorem dX14_feed_42 : decode cX14_feed 42 = .ok (.iconst 4, 1) := by decide +kernel
theorem dX14_feed_43 : decode cX14_feed 43 = .ok (.iload 5, 2) := by decide +kernel
theorem dX14_feed_45 : decode cX14_feed 45 = .ok (.iastore, 1) := by decide +kernel
theorem dX14_feed_46 : decode cX14_feed 46 = .ok (.astore 6, 2) := by decide +kernel
theorem dX14_feed_48 : decode cX14_feed 48 = .ok (.iconst 0, 1) := by decide +kernel
theorem dX14_feed_49 : decode cX14_feed 49 = .ok (.istore 7, 2) := by decide +kernel
theorem dX14_feed_51 : decode cX14_feed 51 = .ok (.iload 7, 2) := by decide +kernel
theorem dX14_feed_53 : decode cX14_feed 53 = .ok (.bipush 20, 2) := by decide +kernel
theorem dX14_feed_55 : decode cX14_feed 55 = .ok (.if_icmp .ge 43, 3) := by decide +kernel
theorem dX14_feed_58 : decode cX14_feed 58 = .ok (.aload_n 0, 1) := by decide +kernel
theorem dX14_feed_59 : decode cX14_feed 59 = .ok (.getfield 9, 3) := by decide +kernel
theorem dX14_feed_62 : decode cX14_feed 62 = .ok (.aload_n 0, 1) := by decide +kernel
theorem dX14_feed_63 : decode cX14_feed 63 = .ok (.getfield 79, 3) := by decide +kernel
theorem dX14_feed_66 : decode cX14_feed 66 = .ok (.iload 7, 2) := by decide +kernel
theorem dX14_feed_68 : decode cX14_feed 68 = .ok (.iadd, 1) := by decide +kernel
theorem dX14_feed_69 : decode cX14_feed 69 = .ok (.aload 6, 2) := by decide +kernel
theorem dX14_feed_71 : decode cX14_feed 71 = .ok (.iload 7, 2) := by decide +kernel
theorem dX14_feed_73 : decode cX14_feed 73 = .ok (.iconst 4, 1) := by decide +kernel
theorem dX14_feed_74 : decode cX14_feed 74 = .ok (.idiv, 1) := by decide +kernel
theorem dX14_feed_75 : decode cX14_feed 75 = .ok (.iaload, 1) := by decide +kernel
theorem dX14_feed_76 : decode cX14_feed 76 = .ok (.bipush 24, 2) := by decide +kernel
theorem dX14_feed_78 : decode cX14_feed 78 = .ok (.bipush 8, 2) := by decide +kernel
theorem dX14_feed_80 : decode cX14_feed 80 = .ok (.iload 7, 2) := by decide +kernel
theorem dX14_feed_82 : decode cX14_feed 82 = .ok (.iconst 4, 1) := by decide +kernel
theorem dX14_feed_83 : decode cX14_feed 83 = .ok (.irem, 1) := by decide +kernel
theorem dX14_feed_84 : decode cX14_feed 84 = .ok (.imul, 1) := by decide +kernel
theorem dX14_feed_85 : decode cX14_feed 85 = .ok (.isub, 1) := by decide +kernel
theorem dX14_feed_86 : decode cX14_feed 86 = .ok (.ishr, 1) := by decide +kernel
theorem dX14_feed_87 : decode cX14_feed 87 = .ok (.sipush 255, 3) := by decide +kernel
theorem dX14_feed_90 : decode cX14_feed 90 = .ok (.iand, 1) := by decide +kernel
theorem dX14_feed_91 : decode cX14_feed 91 = .ok (.iastore, 1) := by decide +kernel
theorem dX14_feed_92 : decode cX14_feed 92 = .ok (.iinc 7 1, 3) := by decide +kernel
theorem dX14_feed_95 : decode cX14_feed 95 = .ok (.goto (-44), 3) := by decide +kernel
theorem dX14_feed_98 : decode cX14_feed 98 = .ok (.aload_n 0, 1) := by decide +kernel
theorem dX14_feed_99 : decode cX14_feed 99 = .ok (.dup, 1) := by decide +kernel
theorem dX14_feed_100 : decode cX14_feed 100 = .ok (.getfield 79, 3) := by decide +kernel
theorem dX14_feed_103 : decode cX14_feed 103 = .ok (.bipush 20, 2) := by decide +kernel
theorem dX14_feed_105 : decode cX14_feed 105 = .ok (.iadd, 1) := by decide +kernel
theorem dX14_feed_106 : decode cX14_feed 106 = .ok (.putfield 79, 3) := by decide +kernel
theorem dX14_feed_109 : decode cX14_feed 109 = .ok (.aload_n 0, 1) := by decide +kernel
theorem dX14_feed_110 : decode cX14_feed 110 = .ok (.getfield 79, 3) := by decide +kernel
theorem dX14_feed_113 : decode cX14_feed 113 = .ok (.ireturn, 1) := by decide +kernel
set_option maxRecDepth 20000 in
theorem ggX14_feed_X14_no : GoodIn wsX14_feed wsX14_no := goodIn_r _ [9, 1, 10, 11, 12, 13, 14, 15, 16, 17, 18, 19, 20, 21, 22, 23, 24] (by decide +kernel) (by decide +kernel)
set_option maxRecDepth 20000 in
theorem gX14_feed_X14_no : GoodIn wsX14_feed (wsV RX14 276 RX14 yX14_no wsX14_no) := goodIn_app (goodIn_of _ (by decide +kernel)) ggX14_feed_X14_no
theorem k_X14_feed_f79 : Cond.fieldLink RX14 79 "TideLotsModel" "size" "I" ∈ wsX14_feed := by decide +kernel
theorem i_X14_feed_X14 : ∀ w ∈ u_ws RX14 TX14 15, w ∈ wsX14_feed := by decide +kernel
theorem k_X14_feed_f9 : Cond.fieldLink RX14 9 "TideLotsModel" "tape" "[I" ∈ wsX14_feed := by decide +kernel
theorem k_X14_feed_f57 : Cond.fieldLink RX14 57 "TideLotsModel" "thrown" "I" ∈ wsX14_feed := by decide +kernel
theorem k_X14_feed_acint : Cond.arrayClass .int ∈ wsX14_feed := by decide +kernel
abbrev rX14_feed : Room := { frames := 1, cells := 1, slots := 5, locals := 21 }
noncomputable def bb_X14_feed_51 (M : gMem) (x0 : Nat) (x6 : Option Nat) (x7 : Int32) : Option ((gMem × Int32) ⊕ (Int32 × gMem)) :=
  (if (20 : Int32) ≤ x7 then ck (mT M x0 = 13) <| lw (wI M x0 2 (((mI M x0 2) + (20 : Int32)))) fun M2 => oI (some ((mI M2 x0 2), M2)) else ck (mT M x0 = 13) <| dr x6 fun a6 => ck (mT M a6 = 20) <| ck (inb (x7 / (4 : Int32)) (mL M a6)) <| dr ((mR M x0 1)) fun a9 => ck (mT M a9 = 20) <| ck (inb ((mI M x0 2) + x7) (mL M a9)) <| lw (wI M a9 (((mI M x0 2) + x7)).toNatClampNeg ((((mI M a6 ((x7 / (4 : Int32))).toNatClampNeg) >>> (((24 : Int32) - ((8 : Int32) * (x7 - x7 / (4 : Int32) * (4 : Int32)))) &&& 31)) &&& (255 : Int32)))) fun M12 => some (.inl (M12, (x7 + (1 : Int32)))))
noncomputable def lp_X14_feed_51 (M : gMem) (x0 : Nat) (x6 : Option Nat) (x7 : Int32) : Option (Int32 × gMem) :=
  lp (fun (q : gMem × Int32) => bb_X14_feed_51 q.1 x0 x6 q.2) (M, x7)
noncomputable def b_X14_feed_0 (M : gMem) (x0 : Nat) (x1 : Int32) (x2 : Int32) (x3 : Int32) (x4 : Int32) (x5 : Int32) : Option (Int32 × gMem) :=
  ck (mT M x0 = 13) <| lw (wI M x0 0 ((0 : Int32))) fun M17 => (if (mI M17 x0 2) ≤ (1980 : Int32) then lw (nW M17 20 ((5 : Int32)).toNatClampNeg) fun M19 => ck (mT M19 (mN M17) = 20) <| ck (inb (0 : Int32) (mL M19 (mN M17))) <| lw (wI M19 (mN M17) ((0 : Int32)).toNatClampNeg x1) fun M22 => ck (inb (1 : Int32) (mL M22 (mN M17))) <| lw (wI M22 (mN M17) ((1 : Int32)).toNatClampNeg x2) fun M25 => ck (inb (2 : Int32) (mL M25 (mN M17))) <| lw (wI M25 (mN M17) ((2 : Int32)).toNatClampNeg x3) fun M28 => ck (inb (3 : Int32) (mL M28 (mN M17))) <| lw (wI M28 (mN M17) ((3 : Int32)).toNatClampNeg x4) fun M31 => ck (inb (4 : Int32) (mL M31 (mN M17))) <| lw (wI M31 (mN M17) ((4 : Int32)).toNatClampNeg x5) fun M34 => lp_X14_feed_51 M34 x0 ((some (mN M17))) ((0 : Int32)) else bd (f_X14_no M17 x0 ((1 : Int32))) fun r36 M36 => some (r36, M36))
noncomputable def f_X14_feed (M : gMem) (x0 : Nat) (x1 : Int32) (x2 : Int32) (x3 : Int32) (x4 : Int32) (x5 : Int32) : Option (Int32 × gMem) :=
  b_X14_feed_0 M x0 x1 x2 x3 x4 x5
set_option maxHeartbeats 4000000 in
set_option maxRecDepth 100000 in
theorem tb_X14_feed_51 (X : gX p s m args meth c D cy B (gSt Z B H0) RX14 cX14_feed wsX14_feed 8) (hr : meth.sig.returnType = (some .int)) {Q : State → Prop} : ∀ (M : gMem) (x0 : Nat) (x6 : Option Nat) (x7 : Int32) (z : (gMem × Int32) ⊕ (Int32 × gMem)), bb_X14_feed_51 M x0 x6 x7 = some z → (Sum.elim (fun (q : gMem × Int32) => gGo p l e rX14_feed s m args below meth c D cy B H0 8 1 5 Q 51 [(0, vR (some x0)), (6, vR x6), (7, vI q.2)] [] q.1) (fun (r : Int32 × gMem) => Q = gMQ below D cy B H0 args s 1 5 (some (vI r.1)) r.2)) z → gGo p l e rX14_feed s m args below meth c D cy B H0 8 1 5 Q 51 [(0, vR (some x0)), (6, vR x6), (7, vI x7)] [] M := by
  intro M x0 x6 x7 z hf hK
  unfold bb_X14_feed_51 at hf
  refine g_iload X dX14_feed_51 rfl ?_
  refine g_bipush (v := (20 : Int32)) X dX14_feed_53 (by decide) ?_
  refine g_icmp_ge (tgt := 98) X dX14_feed_55 (by decide) (fun hc => ?_) (fun hc => ?_)
  · have hf := ife_t hc hf
    refine g_aload_n X dX14_feed_98 rfl rfl ?_
    refine g_dup X dX14_feed_99 rfl ?_
    obtain ⟨hT1, hf⟩ := ck_e hf
    refine g_get (ci := 12) (v := vI (mI M x0 2)) 2 X cdX14 i_X14_feed_X14 (by decide) k_X14_feed_f79 rfl dX14_feed_100 rfl hT1 rfl ?_
    refine g_bipush (v := (20 : Int32)) X dX14_feed_103 (by decide) ?_
    refine g_iadd X dX14_feed_105 ?_
    refine g_putI (ci := 12) 2 X cdX14 i_X14_feed_X14 (by decide) k_X14_feed_f79 rfl dX14_feed_106 rfl hT1 (Or.inl rfl) rfl rfl rfl ?_
    obtain ⟨M2, hM2, hf⟩ := lw_e hf
    rw [← hM2]
    have hT3 : mT M2 x0 = 13 := by rw [hM2]; exact hT1
    refine g_aload_n X dX14_feed_109 rfl rfl ?_
    refine g_get (ci := 12) (v := vI (mI M2 x0 2)) 2 X cdX14 i_X14_feed_X14 (by decide) k_X14_feed_f79 rfl dX14_feed_110 rfl hT3 rfl ?_
    obtain ⟨w4, hw4, hz4⟩ := oI_e hf
    subst hz4
    have hf := hw4
    cases hf
    refine g_eqQ hK ?_
    exact g_iret X hr dX14_feed_113
  · have hf := ife_f hc hf
    refine g_aload_n X dX14_feed_58 rfl rfl ?_
    obtain ⟨hT5, hf⟩ := ck_e hf
    refine g_get (ci := 12) (v := vR (mR M x0 1)) 1 X cdX14 i_X14_feed_X14 (by decide) k_X14_feed_f9 rfl dX14_feed_59 rfl hT5 rfl ?_
    refine g_aload_n X dX14_feed_62 rfl rfl ?_
    refine g_get (ci := 12) (v := vI (mI M x0 2)) 2 X cdX14 i_X14_feed_X14 (by decide) k_X14_feed_f79 rfl dX14_feed_63 rfl hT5 rfl ?_
    refine g_iload X dX14_feed_66 rfl ?_
    refine g_iadd X dX14_feed_68 ?_
    refine g_aload X dX14_feed_69 rfl ?_
    refine g_iload X dX14_feed_71 rfl ?_
    refine g_iconst (v := (4 : Int32)) X dX14_feed_73 (by decide) ?_
    refine g_idiv X dX14_feed_74 (by decide) ?_
    obtain ⟨a6, ha6, hf⟩ := dr_e hf
    obtain ⟨hT7, hf⟩ := ck_e hf
    obtain ⟨hg8, hf⟩ := ck_e hf
    refine g_iald X dX14_feed_75 ha6 hT7 hg8 ?_
    refine g_bipush (v := (24 : Int32)) X dX14_feed_76 (by decide) ?_
    refine g_bipush (v := (8 : Int32)) X dX14_feed_78 (by decide) ?_
    refine g_iload X dX14_feed_80 rfl ?_
    refine g_iconst (v := (4 : Int32)) X dX14_feed_82 (by decide) ?_
    refine g_irem X dX14_feed_83 (by decide) ?_
    refine g_imul X dX14_feed_84 ?_
    refine g_isub X dX14_feed_85 ?_
    refine g_ishr X dX14_feed_86 ?_
    refine g_sipush (v := (255 : Int32)) X dX14_feed_87 (by decide) ?_
    refine g_iand X dX14_feed_90 ?_
    obtain ⟨a9, ha9, hf⟩ := dr_e hf
    obtain ⟨hT10, hf⟩ := ck_e hf
    obtain ⟨hg11, hf⟩ := ck_e hf
    refine g_iast X dX14_feed_91 ha9 hT10 hg11 ?_
    obtain ⟨M12, hM12, hf⟩ := lw_e hf
    rw [← hM12]
    have hT13 : mT M12 x0 = 13 := by rw [hM12]; exact hT5
    have hT14 : mT M12 a6 = 20 := by rw [hM12]; exact hT7
    have hT15 : mT M12 a9 = 20 := by rw [hM12]; exact hT10
    refine g_iinc (v := (1 : Int32)) (lv' := [(7, vI (x7 + (1 : Int32))), (0, vR (some x0)), (6, vR x6)]) X dX14_feed_92 rfl (by decide) (by decide) rfl ?_
    refine g_goto (tgt := 51) X dX14_feed_95 (by decide) ?_
    cases hf
    refine g_sub (lvsub_of _ _ [1, 2, 0] rfl) ?_
    exact hK
set_option maxHeartbeats 4000000 in
set_option maxRecDepth 100000 in
theorem tl_X14_feed_51 (X : gX p s m args meth c D cy B (gSt Z B H0) RX14 cX14_feed wsX14_feed 8) (hr : meth.sig.returnType = (some .int)) {Q : State → Prop} : ∀ (M : gMem) (x0 : Nat) (x6 : Option Nat) (x7 : Int32) (z : Int32 × gMem), lp_X14_feed_51 M x0 x6 x7 = some z → (fun (r : Int32 × gMem) => Q = gMQ below D cy B H0 args s 1 5 (some (vI r.1)) r.2) z → gGo p l e rX14_feed s m args below meth c D cy B H0 8 1 5 Q 51 [(0, vR (some x0)), (6, vR x6), (7, vI x7)] [] M := by
  intro M x0 x6 x7 z hf hK
  refine lp_ind (P := (fun (q : gMem × Int32) (z : Int32 × gMem) => (fun (r : Int32 × gMem) => Q = gMQ below D cy B H0 args s 1 5 (some (vI r.1)) r.2) z → gGo p l e rX14_feed s m args below meth c D cy B H0 8 1 5 Q 51 [(0, vR (some x0)), (6, vR x6), (7, vI q.2)] [] q.1)) (fun q z hq => ?_) _ _ hf hK
  intro hK
  obtain ⟨w, hw, hm⟩ := hq
  refine tb_X14_feed_51 X hr _ _ _ _ w hw ?_
  cases w with
  | inl a => exact hm hK
  | inr b => cases hm; exact hK
set_option maxHeartbeats 4000000 in
set_option maxRecDepth 100000 in
theorem t_X14_feed_0 (X : gX p s m args meth c D cy B (gSt Z B H0) RX14 cX14_feed wsX14_feed 8) (hr : meth.sig.returnType = (some .int)) {Q : State → Prop} : ∀ (M : gMem) (x0 : Nat) (x1 : Int32) (x2 : Int32) (x3 : Int32) (x4 : Int32) (x5 : Int32) (z : Int32 × gMem), b_X14_feed_0 M x0 x1 x2 x3 x4 x5 = some z → (fun (r : Int32 × gMem) => Q = gMQ below D cy B H0 args s 1 5 (some (vI r.1)) r.2) z → gGo p l e rX14_feed s m args below meth c D cy B H0 8 0 0 Q 0 [(0, vR (some x0)), (1, vI x1), (2, vI x2), (3, vI x3), (4, vI x4), (5, vI x5)] [] M := by
  intro M x0 x1 x2 x3 x4 x5 z hf hK
  unfold b_X14_feed_0 at hf
  refine g_aload_n X dX14_feed_0 rfl rfl ?_
  refine g_iconst (v := (0 : Int32)) X dX14_feed_1 (by decide) ?_
  obtain ⟨hT16, hf⟩ := ck_e hf
  refine g_putI (ci := 12) 0 X cdX14 i_X14_feed_X14 (by decide) k_X14_feed_f57 rfl dX14_feed_2 rfl hT16 (Or.inl rfl) rfl rfl rfl ?_
  obtain ⟨M17, hM17, hf⟩ := lw_e hf
  rw [← hM17]
  have hT18 : mT M17 x0 = 13 := by rw [hM17]; exact hT16
  refine g_aload_n X dX14_feed_5 rfl rfl ?_
  refine g_get (ci := 12) (v := vI (mI M17 x0 2)) 2 X cdX14 i_X14_feed_X14 (by decide) k_X14_feed_f79 rfl dX14_feed_6 rfl hT18 rfl ?_
  refine g_sipush (v := (1980 : Int32)) X dX14_feed_9 (by decide) ?_
  refine g_icmp_le (tgt := 21) X dX14_feed_12 (by decide) (fun hc => ?_) (fun hc => ?_)
  · have hf := ife_t hc hf
    refine g_iconst (v := (5 : Int32)) X dX14_feed_21 (by decide) ?_
    refine g_newa (at' := .int) (t0 := 0) X k_X14_feed_acint (by exact Or.inl ⟨rfl, rfl⟩) (by decide) (by decide) ⟨by decide, by decide⟩ dX14_feed_22 ?_
    obtain ⟨M19, hM19, hf⟩ := lw_e hf
    rw [← hM19]
    refine g_dup X dX14_feed_24 rfl ?_
    refine g_iconst (v := (0 : Int32)) X dX14_feed_25 (by decide) ?_
    refine g_iload_n X dX14_feed_26 rfl rfl ?_
    obtain ⟨hT20, hf⟩ := ck_e hf
    obtain ⟨hg21, hf⟩ := ck_e hf
    refine g_iast X dX14_feed_27 rfl hT20 hg21 ?_
    obtain ⟨M22, hM22, hf⟩ := lw_e hf
    rw [← hM22]
    have hT23 : mT M22 (mN M17) = 20 := by rw [hM22]; exact hT20
    refine g_dup X dX14_feed_28 rfl ?_
    refine g_iconst (v := (1 : Int32)) X dX14_feed_29 (by decide) ?_
    refine g_iload_n X dX14_feed_30 rfl rfl ?_
    obtain ⟨hg24, hf⟩ := ck_e hf
    refine g_iast X dX14_feed_31 rfl hT23 hg24 ?_
    obtain ⟨M25, hM25, hf⟩ := lw_e hf
    rw [← hM25]
    have hT26 : mT M25 (mN M17) = 20 := by rw [hM25]; exact hT23
    refine g_dup X dX14_feed_32 rfl ?_
    refine g_iconst (v := (2 : Int32)) X dX14_feed_33 (by decide) ?_
    refine g_iload_n X dX14_feed_34 rfl rfl ?_
    obtain ⟨hg27, hf⟩ := ck_e hf
    refine g_iast X dX14_feed_35 rfl hT26 hg27 ?_
    obtain ⟨M28, hM28, hf⟩ := lw_e hf
    rw [← hM28]
    have hT29 : mT M28 (mN M17) = 20 := by rw [hM28]; exact hT26
    refine g_dup X dX14_feed_36 rfl ?_
    refine g_iconst (v := (3 : Int32)) X dX14_feed_37 (by decide) ?_
    refine g_iload X dX14_feed_38 rfl ?_
    obtain ⟨hg30, hf⟩ := ck_e hf
    refine g_iast X dX14_feed_40 rfl hT29 hg30 ?_
    obtain ⟨M31, hM31, hf⟩ := lw_e hf
    rw [← hM31]
    have hT32 : mT M31 (mN M17) = 20 := by rw [hM31]; exact hT29
    refine g_dup X dX14_feed_41 rfl ?_
    refine g_iconst (v := (4 : Int32)) X dX14_feed_42 (by decide) ?_
    refine g_iload X dX14_feed_43 rfl ?_
    obtain ⟨hg33, hf⟩ := ck_e hf
    refine g_iast X dX14_feed_45 rfl hT32 hg33 ?_
    obtain ⟨M34, hM34, hf⟩ := lw_e hf
    rw [← hM34]
    have hT35 : mT M34 (mN M17) = 20 := by rw [hM34]; exact hT32
    refine g_astore (lv' := [(6, vR (some (mN M17))), (0, vR (some x0)), (1, vI x1), (2, vI x2), (3, vI x3), (4, vI x4), (5, vI x5)]) X dX14_feed_46 (by decide) rfl ?_
    refine g_iconst (v := (0 : Int32)) X dX14_feed_48 (by decide) ?_
    refine g_istore (lv' := [(7, vI (0 : Int32)), (6, vR (some (mN M17))), (0, vR (some x0)), (1, vI x1), (2, vI x2), (3, vI x3), (4, vI x4), (5, vI x5)]) X dX14_feed_49 (by decide) rfl ?_
    refine g_sub (lvsub_of _ _ [2, 1, 0] rfl) ?_
    exact tl_X14_feed_51 X hr _ _ _ _ _ hf hK
  · have hf := ife_f hc hf
    refine g_aload_n X dX14_feed_15 rfl rfl ?_
    refine g_iconst (v := (1 : Int32)) X dX14_feed_16 (by decide) ?_
    obtain ⟨r36, M36, hq36, hf⟩ := bd_e hf
    refine g_callV (ci := 12) (b := x0) (As := [vI (1 : Int32)]) (st := []) (v := some (vI r36)) (M1 := M36) X (m_X14_no l hq36) (cwV 1 X.2.2.1 gX14_feed_X14_no rfl rfl rfl (by decide +kernel) ⟨Nat.le_of_ble_eq_true rfl, Nat.le_of_ble_eq_true rfl⟩) rfl rfl rfl hT18 (by decide) rfl (Nat.le_of_ble_eq_true rfl) dX14_feed_17 ⟨by decide, by decide⟩ ?_
    cases hf
    refine g_eqQ hK ?_
    refine g_wide (k' := 1) (n' := 5) (by decide) (by decide) ?_
    exact g_iret X hr dX14_feed_20
set_option maxHeartbeats 4000000 in
set_option maxRecDepth 100000 in
theorem m_X14_feed (l : Launch) {D : va_G} {cy : Nat → ClassId} {B : Nat} {H0 : Heap} {Z : Nat → Nat} {M M1 : gMem} {x0 : Nat} {x1 : Int32} {x2 : Int32} {x3 : Int32} {x4 : Int32} {x5 : Int32} {r : Int32} (hf : f_X14_feed M x0 x1 x2 x3 x4 x5 = some (r, M1)) : Met l yX14_feed wsX14_feed rX14_feed (va_Pc (Value.ref x0 :: List.map gv [vI x1, vI x2, vI x3, vI x4, vI x5]) (gPre D cy B H0 (gSt Z B H0) M)) (gQ D cy B H0 (some (vI r)) M1) 1 5 (gA B) := by
  refine Met.ofW (cc := cX14_feed) (maxL := 8) (ret := (some .int)) (by decide) rfl ?_
  intro p e s m args below meth c s₁ Bd hml hv
  obtain ⟨rfl, hW, hKK, hFs⟩ := hv
  have X : gX p s m _ meth c D cy B (gSt Z B H0) RX14 cX14_feed wsX14_feed 8 := ⟨Bd.exec, Bd.bytes, atoms_spec (ws := wsX14_feed) Bd.pre, findClass_of_methodNamed Bd.named, hml, hKK, by rw [hW.1]; exact hW.2.1, Bd.notSynchronized, hFs⟩
  have hr := Bd.returns
  have hl := lv_entry ([.ref x0, .int x1, .int x2, .int x3, .int x4, .int x5]) (n := 8) (Nat.le_of_ble_eq_true rfl)
  show W p l e rX14_feed s m _ below meth c s.heap [] 0 0 _ (entryFrame m ([.ref x0, .int x1, .int x2, .int x3, .int x4, .int x5] : List Value).toArray 8)
  rw [lg_entry_eq]
  generalize (lg_sl ([.ref x0, .int x1, .int x2, .int x3, .int x4, .int x5]) ++ List.replicate (8 - (lg_sl ([.ref x0, .int x1, .int x2, .int x3, .int x4, .int x5])).length) Slot.unset).toArray = ls at hl ⊢
  have hl : lv_has ls 8 (List.map gq [(0, vR (some x0)), (1, vI x1), (2, vI x2), (3, vI x3), (4, vI x4), (5, vI x5)]) := hl
  exact t_X14_feed_0 X hr _ _ _ _ _ _ _ _ hf rfl s.heap [] ls hW va_S.rf (lv_has_sub hl (lvsub_of _ _ [0, 1, 2, 3, 4, 5] rfl))
/-! ## TideLotsModel.counted(I)I -/
theorem dX14_counted_0 : decode cX14_counted 0 = .ok (.iconst 0, 1) := by decide +kernel
theorem dX14_counted_1 : decode cX14_counted 1 = .ok (.istore_n 2, 1) := by decide +kernel
theorem dX14_counted_2 : decode cX14_counted 2 = .ok (.iconst 0, 1) := by decide +kernel
theorem dX14_counted_3 : decode cX14_counted 3 = .ok (.istore_n 3, 1) := by decide +kernel
theorem dX14_counted_4 : decode cX14_counted 4 = .ok (.iload_n 3, 1) := by decide +kernel
theorem dX14_counted_5 : decode cX14_counted 5 = .ok (.aload_n 0, 1) := by decide +kernel
theorem dX14_counted_6 : decode cX14_counted 6 = .ok (.getfield 35, 3) := by decide +kernel
theorem dX14_counted_9 : decode cX14_counted 9 = .ok (.getfield 67, 3) := by decide +kernel
theorem dX14_counted_12 : decode cX14_counted 12 = .ok (.if_icmp .ge 38, 3) := by decide +kernel
theorem dX14_counted_15 : decode cX14_counted 15 = .ok (.iload_n 2, 1) := by decide +kernel
theorem dX14_counted_16 : decode cX14_counted 16 = .ok (.aload_n 0, 1) := by decide +kernel
theorem dX14_counted_17 : decode cX14_counted 17 = .ok (.getfield 47, 3) := by decide +kernel
theorem dX14_counted_20 : decode cX14_counted 20 = .ok (.getfield 282, 3) := by decide +kernel
theorem dX14_counted_23 : decode cX14_counted 23 = .ok (.iload_n 3, 1) := by decide +kernel
theorem dX14_counted_24 : decode cX14_counted 24 = .ok (.iaload, 1) := by decide +kernel
theorem dX14_counted_25 : decode cX14_counted 25 = .ok (.aload_n 0, 1) := by decide +kernel
theorem dX14_counted_26 : decode cX14_counted 26 = .ok (.getfield 35, 3) := by decide +kernel
theorem dX14_counted_29 : decode cX14_counted 29 = .ok (.getfield 241, 3) := by decide +kernel
theorem dX14_counted_32 : decode cX14_counted 32 = .ok (.iload_n 3, 1) := by decide +kernel
theorem dX14_counted_33 : decode cX14_counted 33 = .ok (.iaload, 1) := by decide +kernel
theorem dX14_counted_34 : decode cX14_counted 34 = .ok (.if_icmp .le 7, 3) := by decide +kernel
theorem dX14_counted_37 : decode cX14_counted 37 = .ok (.iconst 1, 1) := by decide +kernel
theorem dX14_counted_38 : decode cX14_counted 38 = .ok (.goto 4, 3) := by decide +kernel
theorem dX14_counted_41 : decode cX14_counted 41 = .ok (.iconst 0, 1) := by decide +kernel
theorem dX14_counted_42 : decode cX14_counted 42 = .ok (.iadd, 1) := by decide +kernel
theorem dX14_counted_43 : decode cX14_counted 43 = .ok (.istore_n 2, 1) := by decide +kernel
theorem dX14_counted_44 : decode cX14_counted 44 = .ok (.iinc 3 1, 3) := by decide +kernel
theorem dX14_counted_47 : decode cX14_counted 47 = .ok (.goto (-43), 3) := by decide +kernel
theorem dX14_counted_50 : decode cX14_counted 50 = .ok (.bipush 10, 2) := by decide +kernel
theorem dX14_counted_52 : decode cX14_counted 52 = .ok (.newarray .int, 2) := by decide +kernel
theorem dX14_counted_54 : decode cX14_counted 54 = .ok (.dup, 1) := by decide +kernel
theorem dX14_counted_55 : decode cX14_counted 55 = .ok (.iconst 0, 1) := by decide +kernel
theorem dX14_counted_56 : decode cX14_counted 56 = .ok (.aload_n 0, 1) := by decide +kernel
theorem dX14_counted_57 : decode cX14_counted 57 = .ok (.getfield 47, 3) := by decide +kernel
theorem dX14_counted_60 : decode cX14_counted 60 = .ok (.getfield 283, 3) := by decide +kernel
theorem dX14_counted_63 : decode cX14_counted 63 = .ok (.iastore, 1) := by decide +kernel
theorem dX14_counted_64 : decode cX14_counted 64 = .ok (.dup, 1) := by decide +kernel
theorem dX14_counted_65 : decode cX14_counted 65 = .ok (.iconst 1, 1) := by decide +kernel
theorem dX14_counted_66 : decode cX14_counted 66 = .ok (.aload_n 0, 1) := by decide +kernel
theorem dX14_counted_67 : decode cX14_counted 67 = .ok (.getfield 35, 3) := by decide +kernel
theorem dX14_counted_70 : decode cX14_counted 70 = .ok (.getfield 60, 3) := by decide +kernel
theorem dX14_counted_73 : decode cX14_counted 73 = .ok (.iastore, 1) := by decide +kernel
theorem dX14_counted_74 : decode cX14_counted 74 = .ok (.dup, 1) := by decide +kernel
theorem dX14_counted_75 : decode cX14_counted 75 = .ok (.iconst 2, 1) := by decide +kernel
theorem dX14_counted_76 : decode cX14_counted 76 = .ok (.aload_n 0, 1) := by decide +kernel
theorem dX14_counted_77 : decode cX14_counted 77 = .ok (.getfield 35, 3) := by decide +kernel
theorem dX14_counted_80 : decode cX14_counted 80 = .ok (.getfield 67, 3) := by decide +kernel
theorem dX14_counted_83 : decode cX14_counted 83 = .ok (.iastore, 1) := by decide +kernel
theorem dX14_counted_84 : decode cX14_counted 84 = .ok (.dup, 1) := by decide +kernel
theorem dX14_counted_85 : decode cX14_counted 85 = .ok (.iconst 3, 1) := by decide +kernel
theorem dX14_counted_86 : decode cX14_counted 86 = .ok (.aload_n 0, 1) := by decide +kernel
theorem dX14_counted_87 : decode cX14_counted 87 = .ok (.getfield 35, 3) := by decide +kernel
theorem dX14_counted_90 : decode cX14_counted 90 = .ok (.getfield 228, 3) := by decide +kernel
theorem dX14_counted_93 : decode cX14_counted 93 = .ok (.iastore, 1) := by decide +kernel
theorem dX14_counted_94 : decode cX14_counted 94 = .ok (.dup, 1) := by decide +kernel
theorem dX14_counted_95 : decode cX14_counted 95 = .ok (.iconst 4, 1) := by decide +kernel
theorem dX14_counted_96 : decode cX14_counted 96 = .ok (.aload_n 0, 1) := by decide +kernel
theorem dX14_counted_97 : decode cX14_counted 97 = .ok (.getfield 35, 3) := by decide +kernel
theorem dX14_counted_100 : decode cX14_counted 100 = .ok (.getfield 222, 3) := by decide +kernel
theorem dX14_counted_103 : decode cX14_counted 103 = .ok (.iastore, 1) := by decide +kernel
theorem dX14_counted_104 : decode cX14_counted 104 = .ok (.dup, 1) := by decide +kernel
theorem dX14_counted_105 : decode cX14_counted 105 = .ok (.iconst 5, 1) := by decide +kernel
theorem dX14_counted_106 : decode cX14_counted 106 = .ok (.aload_n 0, 1) := by decide +kernel
theorem dX14_counted_107 : decode cX14_counted 107 = .ok (.getfield 47, 3) := by decide +kernel
theorem dX14_counted_110 : decode cX14_counted 110 = .ok (.aload_n 0, 1) := by decide +kernel
theorem dX14_counted_111 : decode cX14_counted 111 = .ok (.getfield 47, 3) := by decide +kernel
theorem dX14_counted_114 : decode cX14_counted 114 = .ok (.getfield 286, 3) := by decide +kernel
theorem dX14_counted_117 : decode cX14_counted 117 = .ok (.invokevirtual 287, 3) := by decide +kernel
theorem dX14_counted_120 : decode cX14_counted 120 = .ok (.iastore, 1) := by decide +kernel
theorem dX14_counted_121 : decode cX14_counted 121 = .ok (.dup, 1) := by decide +kernel
theorem dX14_counted_122 : decode cX14_counted 122 = .ok (.bipush 6, 2) := by decide +kernel
theorem dX14_counted_124 : decode cX14_counted 124 = .ok (.aload_n 0, 1) := by decide +kernel
theorem dX14_counted_125 : decode cX14_counted 125 = .ok (.getfield 47, 3) := by decide +kernel
theorem dX14_counted_128 : decode cX14_counted 128 = .ok (.aload_n 0, 1) := by decide +kernel
theorem dX14_counted_129 : decode cX14_counted 129 = .ok (.getfield 47, 3) := by decide +kernel
theorem dX14_counted_132 : decode cX14_counted 132 = .ok (.getfield 290, 3) := by decide +kernel
theorem dX14_counted_135 : decode cX14_counted 135 = .ok (.invokevirtual 287, 3) := by decide +kernel
theorem dX14_counted_138 : decode cX14_counted 138 = .ok (.iastore, 1) := by decide +kernel
theorem dX14_counted_139 : decode cX14_counted 139 = .ok (.dup, 1) := by decide +kernel
theorem dX14_counted_140 : decode cX14_counted 140 = .ok (.bipush 7, 2) := by decide +kernel
theorem dX14_counted_142 : decode cX14_counted 142 = .ok (.iload_n 2, 1) := by decide +kernel
theorem dX14_counted_143 : decode cX14_counted 143 = .ok (.iastore, 1) := by decide +kernel
theorem dX14_counted_144 : decode cX14_counted 144 = .ok (.dup, 1) := by decide +kernel
theorem dX14_counted_145 : decode cX14_counted 145 = .ok (.bipush 8, 2) := by decide +kernel
theorem dX14_counted_147 : decode cX14_counted 147 = .ok (.aload_n 0, 1) := by decide +kernel
theorem dX14_counted_148 : decode cX14_counted 148 = .ok (.getfield 47, 3) := by decide +kernel
theorem dX14_counted_151 : decode cX14_counted 151 = .ok (.aload_n 0, 1) := by decide +kernel
theorem dX14_counted_152 : decode cX14_counted 152 = .ok (.getfield 47, 3) := by decide +kernel
theorem dX14_counted_155 : decode cX14_counted 155 = .ok (.getfield 293, 3) := by decide +kernel
theorem dX14_counted_158 : decode cX14_counted 158 = .ok (.invokevirtual 287, 3) := by decide +kernel
theorem dX14_counted_161 : decode cX14_counted 161 = .ok (.iastore, 1) := by decide +kernel
theorem dX14_counted_162 : decode cX14_counted 162 = .ok (.dup, 1) := by decide +kernel
theorem dX14_counted_163 : decode cX14_counted 163 = .ok (.bipush 9, 2) := by decide +kernel
theorem dX14_counted_165 : decode cX14_counted 165 = .ok (.aload_n 0, 1) := by decide +kernel
theorem dX14_counted_166 : decode cX14_counted 166 = .ok (.getfield 79, 3) := by decide +kernel
theorem dX14_counted_169 : decode cX14_counted 169 = .ok (.iastore, 1) := by decide +kernel
theorem dX14_counted_170 : decode cX14_counted 170 = .ok (.astore_n 3, 1) := by decide +kernel
theorem dX14_counted_171 : decode cX14_counted 171 = .ok (.aload_n 3, 1) := by decide +kernel
theorem dX14_counted_172 : decode cX14_counted 172 = .ok (.iload_n 1, 1) := by decide +kernel
theorem dX14_counted_173 : decode cX14_counted 173 = .ok (.iaload, 1) := by decide +kernel
theorem dX14_counted_174 : decode cX14_counted 174 = .ok (.ireturn, 1) := by decide +kernel
set_option maxRecDepth 20000 in
theorem ggX14_counted_X12_sum : GoodIn wsX14_counted wsX12_sum := goodIn_r _ [9] (by decide +kernel) (by decide +kernel)
set_option maxRecDepth 20000 in
theorem gX14_counted_X12_sum : GoodIn wsX14_counted (wsV RX14 287 RX12 yX12_sum wsX12_sum) := goodIn_app (goodIn_of _ (by decide +kernel)) ggX14_counted_X12_sum
theorem k_X14_counted_f35 : Cond.fieldLink RX14 35 "TideLotsModel" "told" "LTideLotsModel$Told;" ∈ wsX14_counted := by decide +kernel
theorem i_X14_counted_X14 : ∀ w ∈ u_ws RX14 TX14 15, w ∈ wsX14_counted := by decide +kernel
theorem i_X14_counted_X13 : ∀ w ∈ u_ws RX13 TX13 25, w ∈ wsX14_counted := by decide +kernel
theorem k_X14_counted_acint : Cond.arrayClass .int ∈ wsX14_counted := by decide +kernel
theorem k_X14_counted_f47 : Cond.fieldLink RX14 47 "TideLotsModel" "s" "LTideLotsModel$State;" ∈ wsX14_counted := by decide +kernel
theorem kn_X14_283 : Cond.fieldLinkNest "TideLotsModel" (283 : Nat) "TideLotsModel$State" "tide" "I" "TideLotsModel" ∈ gNs := by decide +kernel
theorem i_X14_counted_X12 : ∀ w ∈ u_ws RX12 TX12 19, w ∈ wsX14_counted := by decide +kernel
theorem k_X14_counted_f79 : Cond.fieldLink RX14 79 "TideLotsModel" "size" "I" ∈ wsX14_counted := by decide +kernel
abbrev rX14_counted : Room := { frames := 1, cells := 1, slots := 10, locals := 26 }
noncomputable def b_X14_counted_42 (M : gMem) (x0 : Nat) (x1 : Int32) (x3 : Int32) (s0 : Int32) (s1 : Int32) : Option ((gMem × Int32 × Int32) ⊕ (Int32 × gMem)) :=
  some (.inl (M, (s0 + s1), (x3 + (1 : Int32))))
noncomputable def bb_X14_counted_4 (M : gMem) (x0 : Nat) (x1 : Int32) (x2 : Int32) (x3 : Int32) : Option ((gMem × Int32 × Int32) ⊕ (Int32 × gMem)) :=
  ck (mT M x0 = 13) <| dr ((mR M x0 11)) fun a2 => ck (mT M a2 = 12) <| (if (mI M a2 4) ≤ x3 then lw (nW M 20 ((10 : Int32)).toNatClampNeg) fun M4 => ck (mT M4 x0 = 13) <| dr ((mR M4 x0 13)) fun a6 => ck (mT M4 a6 = 11) <| ck (mT M4 (mN M) = 20) <| ck (inb (0 : Int32) (mL M4 (mN M))) <| lw (wI M4 (mN M) ((0 : Int32)).toNatClampNeg ((mI M4 a6 0))) fun M10 => dr ((mR M10 x0 11)) fun a14 => ck (mT M10 a14 = 12) <| ck (inb (1 : Int32) (mL M10 (mN M))) <| lw (wI M10 (mN M) ((1 : Int32)).toNatClampNeg ((mI M10 a14 0))) fun M17 => dr ((mR M17 x0 11)) fun a22 => ck (mT M17 a22 = 12) <| ck (inb (2 : Int32) (mL M17 (mN M))) <| lw (wI M17 (mN M) ((2 : Int32)).toNatClampNeg ((mI M17 a22 4))) fun M25 => dr ((mR M25 x0 11)) fun a31 => ck (mT M25 a31 = 12) <| ck (inb (3 : Int32) (mL M25 (mN M))) <| lw (wI M25 (mN M) ((3 : Int32)).toNatClampNeg ((mI M25 a31 8))) fun M34 => dr ((mR M34 x0 11)) fun a41 => ck (mT M34 a41 = 12) <| ck (inb (4 : Int32) (mL M34 (mN M))) <| lw (wI M34 (mN M) ((4 : Int32)).toNatClampNeg ((mI M34 a41 11))) fun M44 => dr ((mR M44 x0 13)) fun a52 => ck (mT M44 a52 = 11) <| bd (f_X12_sum M44 a52 ((mR M44 a52 2))) fun r54 M54 => ck (mT M54 (mN M) = 20) <| ck (inb (5 : Int32) (mL M54 (mN M))) <| lw (wI M54 (mN M) ((5 : Int32)).toNatClampNeg r54) fun M57 => ck (mT M57 x0 = 13) <| dr ((mR M57 x0 13)) fun a60 => ck (mT M57 a60 = 11) <| bd (f_X12_sum M57 a60 ((mR M57 a60 6))) fun r62 M62 => ck (mT M62 (mN M) = 20) <| ck (inb (6 : Int32) (mL M62 (mN M))) <| lw (wI M62 (mN M) ((6 : Int32)).toNatClampNeg r62) fun M65 => ck (inb (7 : Int32) (mL M65 (mN M))) <| lw (wI M65 (mN M) ((7 : Int32)).toNatClampNeg x2) fun M68 => ck (mT M68 x0 = 13) <| dr ((mR M68 x0 13)) fun a71 => ck (mT M68 a71 = 11) <| bd (f_X12_sum M68 a71 ((mR M68 a71 10))) fun r73 M73 => ck (mT M73 (mN M) = 20) <| ck (inb (8 : Int32) (mL M73 (mN M))) <| lw (wI M73 (mN M) ((8 : Int32)).toNatClampNeg r73) fun M76 => ck (mT M76 x0 = 13) <| ck (inb (9 : Int32) (mL M76 (mN M))) <| lw (wI M76 (mN M) ((9 : Int32)).toNatClampNeg ((mI M76 x0 2))) fun M80 => ck (inb x1 (mL M80 (mN M))) <| oI (some ((mI M80 (mN M) x1.toNatClampNeg), M80)) else dr ((mR M x0 13)) fun a85 => ck (mT M a85 = 11) <| dr ((mR M a85 5)) fun a87 => ck (mT M a87 = 20) <| ck (inb x3 (mL M a87)) <| dr ((mR M a2 5)) fun a90 => ck (mT M a90 = 20) <| ck (inb x3 (mL M a90)) <| (if (mI M a87 x3.toNatClampNeg) ≤ (mI M a90 x3.toNatClampNeg) then b_X14_counted_42 M x0 x1 x3 x2 ((0 : Int32)) else b_X14_counted_42 M x0 x1 x3 x2 ((1 : Int32))))
noncomputable def lp_X14_counted_4 (M : gMem) (x0 : Nat) (x1 : Int32) (x2 : Int32) (x3 : Int32) : Option (Int32 × gMem) :=
  lp (fun (q : gMem × Int32 × Int32) => bb_X14_counted_4 q.1 x0 x1 q.2.1 q.2.2) (M, x2, x3)
noncomputable def b_X14_counted_0 (M : gMem) (x0 : Nat) (x1 : Int32) : Option (Int32 × gMem) :=
  lp_X14_counted_4 M x0 x1 ((0 : Int32)) ((0 : Int32))
noncomputable def f_X14_counted (M : gMem) (x0 : Nat) (x1 : Int32) : Option (Int32 × gMem) :=
  b_X14_counted_0 M x0 x1
set_option maxHeartbeats 4000000 in
set_option maxRecDepth 100000 in
theorem t_X14_counted_42 (X : gX p s m args meth c D cy B (gSt Z B H0) RX14 cX14_counted wsX14_counted 4) (hr : meth.sig.returnType = (some .int)) {Q : State → Prop} : ∀ (M : gMem) (x0 : Nat) (x1 : Int32) (x3 : Int32) (s0 : Int32) (s1 : Int32) (z : (gMem × Int32 × Int32) ⊕ (Int32 × gMem)), b_X14_counted_42 M x0 x1 x3 s0 s1 = some z → (Sum.elim (fun (q : gMem × Int32 × Int32) => gGo p l e rX14_counted s m args below meth c D cy B H0 4 0 0 Q 4 [(0, vR (some x0)), (1, vI x1), (2, vI q.2.1), (3, vI q.2.2)] [] q.1) (fun (r : Int32 × gMem) => Q = gMQ below D cy B H0 args s 1 10 (some (vI r.1)) r.2)) z → gGo p l e rX14_counted s m args below meth c D cy B H0 4 0 0 Q 42 [(0, vR (some x0)), (1, vI x1), (3, vI x3)] [vI s1, vI s0] M := by
  intro M x0 x1 x3 s0 s1 z hf hK
  unfold b_X14_counted_42 at hf
  refine g_iadd X dX14_counted_42 ?_
  refine g_istore_n (lv' := [(2, vI (s0 + s1)), (0, vR (some x0)), (1, vI x1), (3, vI x3)]) X dX14_counted_43 rfl (by decide) rfl ?_
  refine g_iinc (v := (1 : Int32)) (lv' := [(3, vI (x3 + (1 : Int32))), (2, vI (s0 + s1)), (0, vR (some x0)), (1, vI x1)]) X dX14_counted_44 rfl (by decide) (by decide) rfl ?_
  refine g_goto (tgt := 4) X dX14_counted_47 (by decide) ?_
  cases hf
  refine g_sub (lvsub_of _ _ [2, 3, 1, 0] rfl) ?_
  exact hK
set_option maxHeartbeats 4000000 in
set_option maxRecDepth 100000 in
theorem tb_X14_counted_4 (X : gX p s m args meth c D cy B (gSt Z B H0) RX14 cX14_counted wsX14_counted 4) (hr : meth.sig.returnType = (some .int)) {Q : State → Prop} : ∀ (M : gMem) (x0 : Nat) (x1 : Int32) (x2 : Int32) (x3 : Int32) (z : (gMem × Int32 × Int32) ⊕ (Int32 × gMem)), bb_X14_counted_4 M x0 x1 x2 x3 = some z → (Sum.elim (fun (q : gMem × Int32 × Int32) => gGo p l e rX14_counted s m args below meth c D cy B H0 4 0 0 Q 4 [(0, vR (some x0)), (1, vI x1), (2, vI q.2.1), (3, vI q.2.2)] [] q.1) (fun (r : Int32 × gMem) => Q = gMQ below D cy B H0 args s 1 10 (some (vI r.1)) r.2)) z → gGo p l e rX14_counted s m args below meth c D cy B H0 4 0 0 Q 4 [(0, vR (some x0)), (1, vI x1), (2, vI x2), (3, vI x3)] [] M := by
  intro M x0 x1 x2 x3 z hf hK
  unfold bb_X14_counted_4 at hf
  refine g_iload_n X dX14_counted_4 rfl rfl ?_
  refine g_aload_n X dX14_counted_5 rfl rfl ?_
  obtain ⟨hT1, hf⟩ := ck_e hf
  refine g_get (ci := 12) (v := vR (mR M x0 11)) 11 X cdX14 i_X14_counted_X14 (by decide) k_X14_counted_f35 rfl dX14_counted_6 rfl hT1 rfl ?_
  obtain ⟨a2, ha2, hf⟩ := dr_e hf
  obtain ⟨hT3, hf⟩ := ck_e hf
  refine g_getN (ci := 11) (w := vI (mI M a2 4)) 4 X cdX13 i_X14_counted_X13 (by decide) (gNw X _ kn_X14_67) rfl dX14_counted_9 ha2 hT3 rfl ?_
  refine g_icmp_ge (tgt := 50) X dX14_counted_12 (by decide) (fun hc => ?_) (fun hc => ?_)
  · have hf := ife_t hc hf
    refine g_bipush (v := (10 : Int32)) X dX14_counted_50 (by decide) ?_
    refine g_newa (at' := .int) (t0 := 0) X k_X14_counted_acint (by exact Or.inl ⟨rfl, rfl⟩) (by decide) (by decide) ⟨by decide, by decide⟩ dX14_counted_52 ?_
    obtain ⟨M4, hM4, hf⟩ := lw_e hf
    rw [← hM4]
    refine g_dup X dX14_counted_54 rfl ?_
    refine g_iconst (v := (0 : Int32)) X dX14_counted_55 (by decide) ?_
    refine g_aload_n X dX14_counted_56 rfl rfl ?_
    obtain ⟨hT5, hf⟩ := ck_e hf
    refine g_get (ci := 12) (v := vR (mR M4 x0 13)) 13 X cdX14 i_X14_counted_X14 (by decide) k_X14_counted_f47 rfl dX14_counted_57 rfl hT5 rfl ?_
    obtain ⟨a6, ha6, hf⟩ := dr_e hf
    obtain ⟨hT7, hf⟩ := ck_e hf
    refine g_getN (ci := 10) (w := vI (mI M4 a6 0)) 0 X cdX12 i_X14_counted_X12 (by decide) (gNw X _ kn_X14_283) rfl dX14_counted_60 ha6 hT7 rfl ?_
    obtain ⟨hT8, hf⟩ := ck_e hf
    obtain ⟨hg9, hf⟩ := ck_e hf
    refine g_iast X dX14_counted_63 rfl hT8 hg9 ?_
    obtain ⟨M10, hM10, hf⟩ := lw_e hf
    rw [← hM10]
    have hT11 : mT M10 x0 = 13 := by rw [hM10]; exact hT5
    have hT12 : mT M10 a6 = 11 := by rw [hM10]; exact hT7
    have hT13 : mT M10 (mN M) = 20 := by rw [hM10]; exact hT8
    refine g_dup X dX14_counted_64 rfl ?_
    refine g_iconst (v := (1 : Int32)) X dX14_counted_65 (by decide) ?_
    refine g_aload_n X dX14_counted_66 rfl rfl ?_
    refine g_get (ci := 12) (v := vR (mR M10 x0 11)) 11 X cdX14 i_X14_counted_X14 (by decide) k_X14_counted_f35 rfl dX14_counted_67 rfl hT11 rfl ?_
    obtain ⟨a14, ha14, hf⟩ := dr_e hf
    obtain ⟨hT15, hf⟩ := ck_e hf
    refine g_getN (ci := 11) (w := vI (mI M10 a14 0)) 0 X cdX13 i_X14_counted_X13 (by decide) (gNw X _ kn_X14_60) rfl dX14_counted_70 ha14 hT15 rfl ?_
    obtain ⟨hg16, hf⟩ := ck_e hf
    refine g_iast X dX14_counted_73 rfl hT13 hg16 ?_
    obtain ⟨M17, hM17, hf⟩ := lw_e hf
    rw [← hM17]
    have hT18 : mT M17 x0 = 13 := by rw [hM17]; exact hT11
    have hT19 : mT M17 a6 = 11 := by rw [hM17]; exact hT12
    have hT20 : mT M17 (mN M) = 20 := by rw [hM17]; exact hT13
    have hT21 : mT M17 a14 = 12 := by rw [hM17]; exact hT15
    refine g_dup X dX14_counted_74 rfl ?_
    refine g_iconst (v := (2 : Int32)) X dX14_counted_75 (by decide) ?_
    refine g_aload_n X dX14_counted_76 rfl rfl ?_
    refine g_get (ci := 12) (v := vR (mR M17 x0 11)) 11 X cdX14 i_X14_counted_X14 (by decide) k_X14_counted_f35 rfl dX14_counted_77 rfl hT18 rfl ?_
    obtain ⟨a22, ha22, hf⟩ := dr_e hf
    obtain ⟨hT23, hf⟩ := ck_e hf
    refine g_getN (ci := 11) (w := vI (mI M17 a22 4)) 4 X cdX13 i_X14_counted_X13 (by decide) (gNw X _ kn_X14_67) rfl dX14_counted_80 ha22 hT23 rfl ?_
    obtain ⟨hg24, hf⟩ := ck_e hf
    refine g_iast X dX14_counted_83 rfl hT20 hg24 ?_
    obtain ⟨M25, hM25, hf⟩ := lw_e hf
    rw [← hM25]
    have hT26 : mT M25 x0 = 13 := by rw [hM25]; exact hT18
    have hT27 : mT M25 a6 = 11 := by rw [hM25]; exact hT19
    have hT28 : mT M25 (mN M) = 20 := by rw [hM25]; exact hT20
    have hT29 : mT M25 a14 = 12 := by rw [hM25]; exact hT21
    have hT30 : mT M25 a22 = 12 := by rw [hM25]; exact hT23
    refine g_dup X dX14_counted_84 rfl ?_
    refine g_iconst (v := (3 : Int32)) X dX14_counted_85 (by decide) ?_
    refine g_aload_n X dX14_counted_86 rfl rfl ?_
    refine g_get (ci := 12) (v := vR (mR M25 x0 11)) 11 X cdX14 i_X14_counted_X14 (by decide) k_X14_counted_f35 rfl dX14_counted_87 rfl hT26 rfl ?_
    obtain ⟨a31, ha31, hf⟩ := dr_e hf
    obtain ⟨hT32, hf⟩ := ck_e hf
    refine g_getN (ci := 11) (w := vI (mI M25 a31 8)) 8 X cdX13 i_X14_counted_X13 (by decide) (gNw X _ kn_X14_228) rfl dX14_counted_90 ha31 hT32 rfl ?_
    obtain ⟨hg33, hf⟩ := ck_e hf
    refine g_iast X dX14_counted_93 rfl hT28 hg33 ?_
    obtain ⟨M34, hM34, hf⟩ := lw_e hf
    rw [← hM34]
    have hT35 : mT M34 x0 = 13 := by rw [hM34]; exact hT26
    have hT36 : mT M34 a6 = 11 := by rw [hM34]; exact hT27
    have hT37 : mT M34 (mN M) = 20 := by rw [hM34]; exact hT28
    have hT38 : mT M34 a14 = 12 := by rw [hM34]; exact hT29
    have hT39 : mT M34 a22 = 12 := by rw [hM34]; exact hT30
    have hT40 : mT M34 a31 = 12 := by rw [hM34]; exact hT32
    refine g_dup X dX14_counted_94 rfl ?_
    refine g_iconst (v := (4 : Int32)) X dX14_counted_95 (by decide) ?_
    refine g_aload_n X dX14_counted_96 rfl rfl ?_
    refine g_get (ci := 12) (v := vR (mR M34 x0 11)) 11 X cdX14 i_X14_counted_X14 (by decide) k_X14_counted_f35 rfl dX14_counted_97 rfl hT35 rfl ?_
    obtain ⟨a41, ha41, hf⟩ := dr_e hf
    obtain ⟨hT42, hf⟩ := ck_e hf
    refine g_getN (ci := 11) (w := vI (mI M34 a41 11)) 11 X cdX13 i_X14_counted_X13 (by decide) (gNw X _ kn_X14_222) rfl dX14_counted_100 ha41 hT42 rfl ?_
    obtain ⟨hg43, hf⟩ := ck_e hf
    refine g_iast X dX14_counted_103 rfl hT37 hg43 ?_
    obtain ⟨M44, hM44, hf⟩ := lw_e hf
    rw [← hM44]
    have hT45 : mT M44 x0 = 13 := by rw [hM44]; exact hT35
    have hT46 : mT M44 a6 = 11 := by rw [hM44]; exact hT36
    have hT47 : mT M44 (mN M) = 20 := by rw [hM44]; exact hT37
    have hT48 : mT M44 a14 = 12 := by rw [hM44]; exact hT38
    have hT49 : mT M44 a22 = 12 := by rw [hM44]; exact hT39
    have hT50 : mT M44 a31 = 12 := by rw [hM44]; exact hT40
    have hT51 : mT M44 a41 = 12 := by rw [hM44]; exact hT42
    refine g_dup X dX14_counted_104 rfl ?_
    refine g_iconst (v := (5 : Int32)) X dX14_counted_105 (by decide) ?_
    refine g_aload_n X dX14_counted_106 rfl rfl ?_
    refine g_get (ci := 12) (v := vR (mR M44 x0 13)) 13 X cdX14 i_X14_counted_X14 (by decide) k_X14_counted_f47 rfl dX14_counted_107 rfl hT45 rfl ?_
    refine g_aload_n X dX14_counted_110 rfl rfl ?_
    refine g_get (ci := 12) (v := vR (mR M44 x0 13)) 13 X cdX14 i_X14_counted_X14 (by decide) k_X14_counted_f47 rfl dX14_counted_111 rfl hT45 rfl ?_
    obtain ⟨a52, ha52, hf⟩ := dr_e hf
    obtain ⟨hT53, hf⟩ := ck_e hf
    refine g_getN (ci := 10) (w := vR (mR M44 a52 2)) 2 X cdX12 i_X14_counted_X12 (by decide) (gNw X _ kn_X14_286) rfl dX14_counted_114 ha52 hT53 rfl ?_
    obtain ⟨r54, M54, hq54, hf⟩ := bd_e hf
    refine g_callV (ci := 10) (b := a52) (As := [vR (mR M44 a52 2)]) (st := [vI (5 : Int32), vR (some (mN M)), vR (some (mN M))]) (v := some (vI r54)) (M1 := M54) X (m_X12_sum l hq54) (cwV 1 X.2.2.1 gX14_counted_X12_sum rfl rfl rfl (by decide +kernel) ⟨Nat.le_of_ble_eq_true rfl, Nat.le_of_ble_eq_true rfl⟩) rfl rfl ha52 hT53 (by decide) rfl (Nat.le_of_ble_eq_true rfl) dX14_counted_117 ⟨by decide, by decide⟩ ?_
    obtain ⟨hT55, hf⟩ := ck_e hf
    obtain ⟨hg56, hf⟩ := ck_e hf
    refine g_iast X dX14_counted_120 rfl hT55 hg56 ?_
    obtain ⟨M57, hM57, hf⟩ := lw_e hf
    rw [← hM57]
    have hT58 : mT M57 (mN M) = 20 := by rw [hM57]; exact hT55
    refine g_dup X dX14_counted_121 rfl ?_
    refine g_bipush (v := (6 : Int32)) X dX14_counted_122 (by decide) ?_
    refine g_aload_n X dX14_counted_124 rfl rfl ?_
    obtain ⟨hT59, hf⟩ := ck_e hf
    refine g_get (ci := 12) (v := vR (mR M57 x0 13)) 13 X cdX14 i_X14_counted_X14 (by decide) k_X14_counted_f47 rfl dX14_counted_125 rfl hT59 rfl ?_
    refine g_aload_n X dX14_counted_128 rfl rfl ?_
    refine g_get (ci := 12) (v := vR (mR M57 x0 13)) 13 X cdX14 i_X14_counted_X14 (by decide) k_X14_counted_f47 rfl dX14_counted_129 rfl hT59 rfl ?_
    obtain ⟨a60, ha60, hf⟩ := dr_e hf
    obtain ⟨hT61, hf⟩ := ck_e hf
    refine g_getN (ci := 10) (w := vR (mR M57 a60 6)) 6 X cdX12 i_X14_counted_X12 (by decide) (gNw X _ kn_X14_290) rfl dX14_counted_132 ha60 hT61 rfl ?_
    obtain ⟨r62, M62, hq62, hf⟩ := bd_e hf
    refine g_callV (ci := 10) (b := a60) (As := [vR (mR M57 a60 6)]) (st := [vI (6 : Int32), vR (some (mN M)), vR (some (mN M))]) (v := some (vI r62)) (M1 := M62) X (m_X12_sum l hq62) (cwV 1 X.2.2.1 gX14_counted_X12_sum rfl rfl rfl (by decide +kernel) ⟨Nat.le_of_ble_eq_true rfl, Nat.le_of_ble_eq_true rfl⟩) rfl rfl ha60 hT61 (by decide) rfl (Nat.le_of_ble_eq_true rfl) dX14_counted_135 ⟨by decide, by decide⟩ ?_
    obtain ⟨hT63, hf⟩ := ck_e hf
    obtain ⟨hg64, hf⟩ := ck_e hf
    refine g_iast X dX14_counted_138 rfl hT63 hg64 ?_
    obtain ⟨M65, hM65, hf⟩ := lw_e hf
    rw [← hM65]
    have hT66 : mT M65 (mN M) = 20 := by rw [hM65]; exact hT63
    refine g_dup X dX14_counted_139 rfl ?_
    refine g_bipush (v := (7 : Int32)) X dX14_counted_140 (by decide) ?_
    refine g_iload_n X dX14_counted_142 rfl rfl ?_
    obtain ⟨hg67, hf⟩ := ck_e hf
    refine g_iast X dX14_counted_143 rfl hT66 hg67 ?_
    obtain ⟨M68, hM68, hf⟩ := lw_e hf
    rw [← hM68]
    have hT69 : mT M68 (mN M) = 20 := by rw [hM68]; exact hT66
    refine g_dup X dX14_counted_144 rfl ?_
    refine g_bipush (v := (8 : Int32)) X dX14_counted_145 (by decide) ?_
    refine g_aload_n X dX14_counted_147 rfl rfl ?_
    obtain ⟨hT70, hf⟩ := ck_e hf
    refine g_get (ci := 12) (v := vR (mR M68 x0 13)) 13 X cdX14 i_X14_counted_X14 (by decide) k_X14_counted_f47 rfl dX14_counted_148 rfl hT70 rfl ?_
    refine g_aload_n X dX14_counted_151 rfl rfl ?_
    refine g_get (ci := 12) (v := vR (mR M68 x0 13)) 13 X cdX14 i_X14_counted_X14 (by decide) k_X14_counted_f47 rfl dX14_counted_152 rfl hT70 rfl ?_
    obtain ⟨a71, ha71, hf⟩ := dr_e hf
    obtain ⟨hT72, hf⟩ := ck_e hf
    refine g_getN (ci := 10) (w := vR (mR M68 a71 10)) 10 X cdX12 i_X14_counted_X12 (by decide) (gNw X _ kn_X14_293) rfl dX14_counted_155 ha71 hT72 rfl ?_
    obtain ⟨r73, M73, hq73, hf⟩ := bd_e hf
    refine g_callV (ci := 10) (b := a71) (As := [vR (mR M68 a71 10)]) (st := [vI (8 : Int32), vR (some (mN M)), vR (some (mN M))]) (v := some (vI r73)) (M1 := M73) X (m_X12_sum l hq73) (cwV 1 X.2.2.1 gX14_counted_X12_sum rfl rfl rfl (by decide +kernel) ⟨Nat.le_of_ble_eq_true rfl, Nat.le_of_ble_eq_true rfl⟩) rfl rfl ha71 hT72 (by decide) rfl (Nat.le_of_ble_eq_true rfl) dX14_counted_158 ⟨by decide, by decide⟩ ?_
    obtain ⟨hT74, hf⟩ := ck_e hf
    obtain ⟨hg75, hf⟩ := ck_e hf
    refine g_iast X dX14_counted_161 rfl hT74 hg75 ?_
    obtain ⟨M76, hM76, hf⟩ := lw_e hf
    rw [← hM76]
    have hT77 : mT M76 (mN M) = 20 := by rw [hM76]; exact hT74
    refine g_dup X dX14_counted_162 rfl ?_
    refine g_bipush (v := (9 : Int32)) X dX14_counted_163 (by decide) ?_
    refine g_aload_n X dX14_counted_165 rfl rfl ?_
    obtain ⟨hT78, hf⟩ := ck_e hf
    refine g_get (ci := 12) (v := vI (mI M76 x0 2)) 2 X cdX14 i_X14_counted_X14 (by decide) k_X14_counted_f79 rfl dX14_counted_166 rfl hT78 rfl ?_
    obtain ⟨hg79, hf⟩ := ck_e hf
    refine g_iast X dX14_counted_169 rfl hT77 hg79 ?_
    obtain ⟨M80, hM80, hf⟩ := lw_e hf
    rw [← hM80]
    have hT81 : mT M80 (mN M) = 20 := by rw [hM80]; exact hT77
    have hT82 : mT M80 x0 = 13 := by rw [hM80]; exact hT78
    refine g_astore_n (lv' := [(3, vR (some (mN M))), (0, vR (some x0)), (1, vI x1), (2, vI x2)]) X dX14_counted_170 rfl (by decide) rfl ?_
    refine g_aload_n X dX14_counted_171 rfl rfl ?_
    refine g_iload_n X dX14_counted_172 rfl rfl ?_
    obtain ⟨hg83, hf⟩ := ck_e hf
    refine g_iald X dX14_counted_173 rfl hT81 hg83 ?_
    obtain ⟨w84, hw84, hz84⟩ := oI_e hf
    subst hz84
    have hf := hw84
    cases hf
    refine g_eqQ hK ?_
    exact g_iret X hr dX14_counted_174
  · have hf := ife_f hc hf
    refine g_iload_n X dX14_counted_15 rfl rfl ?_
    refine g_aload_n X dX14_counted_16 rfl rfl ?_
    refine g_get (ci := 12) (v := vR (mR M x0 13)) 13 X cdX14 i_X14_counted_X14 (by decide) k_X14_counted_f47 rfl dX14_counted_17 rfl hT1 rfl ?_
    obtain ⟨a85, ha85, hf⟩ := dr_e hf
    obtain ⟨hT86, hf⟩ := ck_e hf
    refine g_getN (ci := 10) (w := vR (mR M a85 5)) 5 X cdX12 i_X14_counted_X12 (by decide) (gNw X _ kn_X14_282) rfl dX14_counted_20 ha85 hT86 rfl ?_
    refine g_iload_n X dX14_counted_23 rfl rfl ?_
    obtain ⟨a87, ha87, hf⟩ := dr_e hf
    obtain ⟨hT88, hf⟩ := ck_e hf
    obtain ⟨hg89, hf⟩ := ck_e hf
    refine g_iald X dX14_counted_24 ha87 hT88 hg89 ?_
    refine g_aload_n X dX14_counted_25 rfl rfl ?_
    refine g_get (ci := 12) (v := vR (mR M x0 11)) 11 X cdX14 i_X14_counted_X14 (by decide) k_X14_counted_f35 rfl dX14_counted_26 rfl hT1 rfl ?_
    refine g_getN (ci := 11) (w := vR (mR M a2 5)) 5 X cdX13 i_X14_counted_X13 (by decide) (gNw X _ kn_X14_241) rfl dX14_counted_29 ha2 hT3 rfl ?_
    refine g_iload_n X dX14_counted_32 rfl rfl ?_
    obtain ⟨a90, ha90, hf⟩ := dr_e hf
    obtain ⟨hT91, hf⟩ := ck_e hf
    obtain ⟨hg92, hf⟩ := ck_e hf
    refine g_iald X dX14_counted_33 ha90 hT91 hg92 ?_
    refine g_icmp_le (tgt := 41) X dX14_counted_34 (by decide) (fun hc => ?_) (fun hc => ?_)
    · have hf := ife_t hc hf
      refine g_iconst (v := (0 : Int32)) X dX14_counted_41 (by decide) ?_
      refine g_sub (lvsub_of _ _ [0, 1, 3] rfl) ?_
      exact t_X14_counted_42 X hr _ _ _ _ _ _ _ hf hK
    · have hf := ife_f hc hf
      refine g_iconst (v := (1 : Int32)) X dX14_counted_37 (by decide) ?_
      refine g_goto (tgt := 42) X dX14_counted_38 (by decide) ?_
      refine g_sub (lvsub_of _ _ [0, 1, 3] rfl) ?_
      exact t_X14_counted_42 X hr _ _ _ _ _ _ _ hf hK
set_option maxHeartbeats 4000000 in
set_option maxRecDepth 100000 in
theorem tl_X14_counted_4 (X : gX p s m args meth c D cy B (gSt Z B H0) RX14 cX14_counted wsX14_counted 4) (hr : meth.sig.returnType = (some .int)) {Q : State → Prop} : ∀ (M : gMem) (x0 : Nat) (x1 : Int32) (x2 : Int32) (x3 : Int32) (z : Int32 × gMem), lp_X14_counted_4 M x0 x1 x2 x3 = some z → (fun (r : Int32 × gMem) => Q = gMQ below D cy B H0 args s 1 10 (some (vI r.1)) r.2) z → gGo p l e rX14_counted s m args below meth c D cy B H0 4 0 0 Q 4 [(0, vR (some x0)), (1, vI x1), (2, vI x2), (3, vI x3)] [] M := by
  intro M x0 x1 x2 x3 z hf hK
  refine lp_ind (P := (fun (q : gMem × Int32 × Int32) (z : Int32 × gMem) => (fun (r : Int32 × gMem) => Q = gMQ below D cy B H0 args s 1 10 (some (vI r.1)) r.2) z → gGo p l e rX14_counted s m args below meth c D cy B H0 4 0 0 Q 4 [(0, vR (some x0)), (1, vI x1), (2, vI q.2.1), (3, vI q.2.2)] [] q.1)) (fun q z hq => ?_) _ _ hf hK
  intro hK
  obtain ⟨w, hw, hm⟩ := hq
  refine tb_X14_counted_4 X hr _ _ _ _ _ w hw ?_
  cases w with
  | inl a => exact hm hK
  | inr b => cases hm; exact hK
set_option maxHeartbeats 4000000 in
set_option maxRecDepth 100000 in
theorem t_X14_counted_0 (X : gX p s m args meth c D cy B (gSt Z B H0) RX14 cX14_counted wsX14_counted 4) (hr : meth.sig.returnType = (some .int)) {Q : State → Prop} : ∀ (M : gMem) (x0 : Nat) (x1 : Int32) (z : Int32 × gMem), b_X14_counted_0 M x0 x1 = some z → (fun (r : Int32 × gMem) => Q = gMQ below D cy B H0 args s 1 10 (some (vI r.1)) r.2) z → gGo p l e rX14_counted s m args below meth c D cy B H0 4 0 0 Q 0 [(0, vR (some x0)), (1, vI x1)] [] M := by
  intro M x0 x1 z hf hK
  unfold b_X14_counted_0 at hf
  refine g_iconst (v := (0 : Int32)) X dX14_counted_0 (by decide) ?_
  refine g_istore_n (lv' := [(2, vI (0 : Int32)), (0, vR (some x0)), (1, vI x1)]) X dX14_counted_1 rfl (by decide) rfl ?_
  refine g_iconst (v := (0 : Int32)) X dX14_counted_2 (by decide) ?_
  refine g_istore_n (lv' := [(3, vI (0 : Int32)), (2, vI (0 : Int32)), (0, vR (some x0)), (1, vI x1)]) X dX14_counted_3 rfl (by decide) rfl ?_
  refine g_sub (lvsub_of _ _ [2, 3, 1, 0] rfl) ?_
  exact tl_X14_counted_4 X hr _ _ _ _ _ _ hf hK
set_option maxHeartbeats 4000000 in
set_option maxRecDepth 100000 in
theorem m_X14_counted (l : Launch) {D : va_G} {cy : Nat → ClassId} {B : Nat} {H0 : Heap} {Z : Nat → Nat} {M M1 : gMem} {x0 : Nat} {x1 : Int32} {r : Int32} (hf : f_X14_counted M x0 x1 = some (r, M1)) : Met l yX14_counted wsX14_counted rX14_counted (va_Pc (Value.ref x0 :: List.map gv [vI x1]) (gPre D cy B H0 (gSt Z B H0) M)) (gQ D cy B H0 (some (vI r)) M1) 1 10 (gA B) := by
  refine Met.ofW (cc := cX14_counted) (maxL := 4) (ret := (some .int)) (by decide) rfl ?_
  intro p e s m args below meth c s₁ Bd hml hv
  obtain ⟨rfl, hW, hKK, hFs⟩ := hv
  have X : gX p s m _ meth c D cy B (gSt Z B H0) RX14 cX14_counted wsX14_counted 4 := ⟨Bd.exec, Bd.bytes, atoms_spec (ws := wsX14_counted) Bd.pre, findClass_of_methodNamed Bd.named, hml, hKK, by rw [hW.1]; exact hW.2.1, Bd.notSynchronized, hFs⟩
  have hr := Bd.returns
  have hl := lv_entry ([.ref x0, .int x1]) (n := 4) (Nat.le_of_ble_eq_true rfl)
  show W p l e rX14_counted s m _ below meth c s.heap [] 0 0 _ (entryFrame m ([.ref x0, .int x1] : List Value).toArray 4)
  rw [lg_entry_eq]
  generalize (lg_sl ([.ref x0, .int x1]) ++ List.replicate (4 - (lg_sl ([.ref x0, .int x1])).length) Slot.unset).toArray = ls at hl ⊢
  have hl : lv_has ls 4 (List.map gq [(0, vR (some x0)), (1, vI x1)]) := hl
  exact t_X14_counted_0 X hr _ _ _ _ hf rfl s.heap [] ls hW va_S.rf (lv_has_sub hl (lvsub_of _ _ [0, 1] rfl))
/-! ## TideLotsModel.count(I)I -/
theorem dX14_count_0 : decode cX14_count 0 = .ok (.aload_n 0, 1) := by decide +kernel
theorem dX14_count_1 : decode cX14_count 1 = .ok (.iconst 0, 1) := by decide +kernel
theorem dX14_count_2 : decode cX14_count 2 = .ok (.putfield 57, 3) := by decide +kernel
theorem dX14_count_5 : decode cX14_count 5 = .ok (.iload_n 1, 1) := by decide +kernel
theorem dX14_count_6 : decode cX14_count 6 = .ok (.iconst 0, 1) := by decide +kernel
theorem dX14_count_7 : decode cX14_count 7 = .ok (.bipush 9, 2) := by decide +kernel
theorem dX14_count_9 : decode cX14_count 9 = .ok (.invokestatic 63, 3) := by decide +kernel
theorem dX14_count_12 : decode cX14_count 12 = .ok (.ifCond .eq 11, 3) := by decide +kernel
theorem dX14_count_15 : decode cX14_count 15 = .ok (.aload_n 0, 1) := by decide +kernel
theorem dX14_count_16 : decode cX14_count 16 = .ok (.iload_n 1, 1) := by decide +kernel
theorem dX14_count_17 : decode cX14_count 17 = .ok (.invokevirtual 296, 3) := by decide +kernel
theorem dX14_count_20 : decode cX14_count 20 = .ok (.goto 8, 3) := by decide +kernel
theorem dX14_count_23 : decode cX14_count 23 = .ok (.aload_n 0, 1) := by decide +kernel
theorem dX14_count_24 : decode cX14_count 24 = .ok (.iconst 1, 1) := by decide +kernel
theorem dX14_count_25 : decode cX14_count 25 = .ok (.invokevirtual 276, 3) := by decide +kernel
theorem dX14_count_28 : decode cX14_count 28 = .ok (.ireturn, 1) := by decide +kernel
set_option maxRecDepth 20000 in
theorem ggX14_count_X14_isIn : GoodIn wsX14_count wsX14_isIn := goodIn_r _ [5] (by decide +kernel) (by decide +kernel)
set_option maxRecDepth 20000 in
theorem gX14_count_X14_isIn : GoodIn wsX14_count (va_wsS RX14 63 yX14_isIn wsX14_isIn) := goodIn_app (goodIn_of _ (by decide +kernel)) ggX14_count_X14_isIn
set_option maxRecDepth 20000 in
theorem ggX14_count_X14_no : GoodIn wsX14_count wsX14_no := goodIn_r _ [22, 1, 23, 24, 25, 26, 27, 28, 29, 30, 31, 32, 33, 34, 35, 36, 37] (by decide +kernel) (by decide +kernel)
set_option maxRecDepth 20000 in
theorem gX14_count_X14_no : GoodIn wsX14_count (wsV RX14 276 RX14 yX14_no wsX14_no) := goodIn_app (goodIn_of _ (by decide +kernel)) ggX14_count_X14_no
set_option maxRecDepth 20000 in
theorem ggX14_count_X14_counted : GoodIn wsX14_count wsX14_counted := goodIn_r _ [9, 10, 11, 12, 13, 14, 15, 16, 17, 18, 23, 24, 25, 26, 27, 28, 29, 30, 31, 32, 33, 34, 35, 36, 37, 38, 39, 40, 41, 42, 43, 44, 45, 46, 47, 48, 49, 50, 51, 52, 53, 54, 55, 56, 57, 58, 59, 60, 61, 62, 63, 64, 65, 66, 67, 68, 69, 70, 71, 72, 73, 74, 75, 76, 77, 78, 79, 80, 81] (by decide +kernel) (by decide +kernel)
set_option maxRecDepth 20000 in
theorem gX14_count_X14_counted : GoodIn wsX14_count (wsV RX14 296 RX14 yX14_counted wsX14_counted) := goodIn_app (goodIn_of _ (by decide +kernel)) ggX14_count_X14_counted
theorem k_X14_count_f57 : Cond.fieldLink RX14 57 "TideLotsModel" "thrown" "I" ∈ wsX14_count := by decide +kernel
theorem i_X14_count_X14 : ∀ w ∈ u_ws RX14 TX14 15, w ∈ wsX14_count := by decide +kernel
abbrev rX14_count : Room := { frames := 2, cells := 1, slots := 10, locals := 49 }
noncomputable def b_X14_count_28 (M : gMem) (s0 : Int32) : Option (Int32 × gMem) :=
  some (s0, M)
noncomputable def b_X14_count_0 (M : gMem) (x0 : Nat) (x1 : Int32) : Option (Int32 × gMem) :=
  ck (mT M x0 = 13) <| lw (wI M x0 0 ((0 : Int32))) fun M2 => bd (f_X14_isIn M2 x1 ((0 : Int32)) ((9 : Int32))) fun r4 M4 => (if r4 = 0 then ck (mT M4 x0 = 13) <| bd (f_X14_no M4 x0 ((1 : Int32))) fun r5 M5 => b_X14_count_28 M5 r5 else ck (mT M4 x0 = 13) <| bd (f_X14_counted M4 x0 x1) fun r7 M7 => b_X14_count_28 M7 r7)
noncomputable def f_X14_count (M : gMem) (x0 : Nat) (x1 : Int32) : Option (Int32 × gMem) :=
  b_X14_count_0 M x0 x1
set_option maxHeartbeats 4000000 in
set_option maxRecDepth 100000 in
theorem t_X14_count_28 (X : gX p s m args meth c D cy B (gSt Z B H0) RX14 cX14_count wsX14_count 2) (hr : meth.sig.returnType = (some .int)) {Q : State → Prop} : ∀ (M : gMem) (s0 : Int32) (z : Int32 × gMem), b_X14_count_28 M s0 = some z → (fun (r : Int32 × gMem) => Q = gMQ below D cy B H0 args s 1 10 (some (vI r.1)) r.2) z → gGo p l e rX14_count s m args below meth c D cy B H0 2 1 10 Q 28 [] [vI s0] M := by
  intro M s0 z hf hK
  unfold b_X14_count_28 at hf
  cases hf
  refine g_eqQ hK ?_
  exact g_iret X hr dX14_count_28
set_option maxHeartbeats 4000000 in
set_option maxRecDepth 100000 in
theorem t_X14_count_0 (X : gX p s m args meth c D cy B (gSt Z B H0) RX14 cX14_count wsX14_count 2) (hr : meth.sig.returnType = (some .int)) {Q : State → Prop} : ∀ (M : gMem) (x0 : Nat) (x1 : Int32) (z : Int32 × gMem), b_X14_count_0 M x0 x1 = some z → (fun (r : Int32 × gMem) => Q = gMQ below D cy B H0 args s 1 10 (some (vI r.1)) r.2) z → gGo p l e rX14_count s m args below meth c D cy B H0 2 0 0 Q 0 [(0, vR (some x0)), (1, vI x1)] [] M := by
  intro M x0 x1 z hf hK
  unfold b_X14_count_0 at hf
  refine g_aload_n X dX14_count_0 rfl rfl ?_
  refine g_iconst (v := (0 : Int32)) X dX14_count_1 (by decide) ?_
  obtain ⟨hT1, hf⟩ := ck_e hf
  refine g_putI (ci := 12) 0 X cdX14 i_X14_count_X14 (by decide) k_X14_count_f57 rfl dX14_count_2 rfl hT1 (Or.inl rfl) rfl rfl rfl ?_
  obtain ⟨M2, hM2, hf⟩ := lw_e hf
  rw [← hM2]
  have hT3 : mT M2 x0 = 13 := by rw [hM2]; exact hT1
  refine g_iload_n X dX14_count_5 rfl rfl ?_
  refine g_iconst (v := (0 : Int32)) X dX14_count_6 (by decide) ?_
  refine g_bipush (v := (9 : Int32)) X dX14_count_7 (by decide) ?_
  obtain ⟨r4, M4, hq4, hf⟩ := bd_e hf
  refine g_callS (As := [vI x1, vI (0 : Int32), vI (9 : Int32)]) (st := []) (v := some (vI r4)) (M1 := M4) X (m_X14_isIn l hq4) (va_cwS 3 X.2.2.1 gX14_count_X14_isIn rfl rfl rfl (by decide +kernel) ⟨Nat.le_of_ble_eq_true rfl, Nat.le_of_ble_eq_true rfl⟩) rfl rfl (Nat.le_of_ble_eq_true rfl) dX14_count_9 ⟨by decide, by decide⟩ ?_
  refine g_if_eq (tgt := 23) X dX14_count_12 (by decide) (fun hc => ?_) (fun hc => ?_)
  · have hf := ife_t hc hf
    refine g_aload_n X dX14_count_23 rfl rfl ?_
    refine g_iconst (v := (1 : Int32)) X dX14_count_24 (by decide) ?_
    obtain ⟨hT6, hf⟩ := ck_e hf
    obtain ⟨r5, M5, hq5, hf⟩ := bd_e hf
    refine g_callV (ci := 12) (b := x0) (As := [vI (1 : Int32)]) (st := []) (v := some (vI r5)) (M1 := M5) X (m_X14_no l hq5) (cwV 1 X.2.2.1 gX14_count_X14_no rfl rfl rfl (by decide +kernel) ⟨Nat.le_of_ble_eq_true rfl, Nat.le_of_ble_eq_true rfl⟩) rfl rfl rfl hT6 (by decide) rfl (Nat.le_of_ble_eq_true rfl) dX14_count_25 ⟨by decide, by decide⟩ ?_
    refine g_sub (lvsub_of _ _ [] rfl) ?_
    refine g_wide (k' := 1) (n' := 10) (by decide) (by decide) ?_
    exact t_X14_count_28 X hr _ _ _ hf hK
  · have hf := ife_f hc hf
    refine g_aload_n X dX14_count_15 rfl rfl ?_
    refine g_iload_n X dX14_count_16 rfl rfl ?_
    obtain ⟨hT8, hf⟩ := ck_e hf
    obtain ⟨r7, M7, hq7, hf⟩ := bd_e hf
    refine g_callV (ci := 12) (b := x0) (As := [vI x1]) (st := []) (v := some (vI r7)) (M1 := M7) X (m_X14_counted l hq7) (cwV 1 X.2.2.1 gX14_count_X14_counted rfl rfl rfl (by decide +kernel) ⟨Nat.le_of_ble_eq_true rfl, Nat.le_of_ble_eq_true rfl⟩) rfl rfl rfl hT8 (by decide) rfl (Nat.le_of_ble_eq_true rfl) dX14_count_17 ⟨by decide, by decide⟩ ?_
    refine g_goto (tgt := 28) X dX14_count_20 (by decide) ?_
    refine g_sub (lvsub_of _ _ [] rfl) ?_
    exact t_X14_count_28 X hr _ _ _ hf hK
set_option maxHeartbeats 4000000 in
set_option maxRecDepth 100000 in
theorem m_X14_count (l : Launch) {D : va_G} {cy : Nat → ClassId} {B : Nat} {H0 : Heap} {Z : Nat → Nat} {M M1 : gMem} {x0 : Nat} {x1 : Int32} {r : Int32} (hf : f_X14_count M x0 x1 = some (r, M1)) : Met l yX14_count wsX14_count rX14_count (va_Pc (Value.ref x0 :: List.map gv [vI x1]) (gPre D cy B H0 (gSt Z B H0) M)) (gQ D cy B H0 (some (vI r)) M1) 1 10 (gA B) := by
  refine Met.ofW (cc := cX14_count) (maxL := 2) (ret := (some .int)) (by decide) rfl ?_
  intro p e s m args below meth c s₁ Bd hml hv
  obtain ⟨rfl, hW, hKK, hFs⟩ := hv
  have X : gX p s m _ meth c D cy B (gSt Z B H0) RX14 cX14_count wsX14_count 2 := ⟨Bd.exec, Bd.bytes, atoms_spec (ws := wsX14_count) Bd.pre, findClass_of_methodNamed Bd.named, hml, hKK, by rw [hW.1]; exact hW.2.1, Bd.notSynchronized, hFs⟩
  have hr := Bd.returns
  have hl := lv_entry ([.ref x0, .int x1]) (n := 2) (Nat.le_of_ble_eq_true rfl)
  show W p l e rX14_count s m _ below meth c s.heap [] 0 0 _ (entryFrame m ([.ref x0, .int x1] : List Value).toArray 2)
  rw [lg_entry_eq]
  generalize (lg_sl ([.ref x0, .int x1]) ++ List.replicate (2 - (lg_sl ([.ref x0, .int x1])).length) Slot.unset).toArray = ls at hl ⊢
  have hl : lv_has ls 2 (List.map gq [(0, vR (some x0)), (1, vI x1)]) := hl
  exact t_X14_count_0 X hr _ _ _ _ hf rfl s.heap [] ls hW va_S.rf (lv_has_sub hl (lvsub_of _ _ [0, 1] rfl))
/-! ## TideLotsModel.fisherTold(II)I -/
theorem dX14_fisherTold_0 : decode cX14_fisherTold 0 = .ok (.bipush 10, 2) := by decide +kernel
theorem dX14_fisherTold_2 : decode cX14_fisherTold 2 = .ok (.newarray .int, 2) := by decide +kernel
theorem dX14_fisherTold_4 : decode cX14_fisherTold 4 = .ok (.dup, 1) := by decide +kernel
theorem dX14_fisherTold_5 : decode cX14_fisherTold 5 = .ok (.iconst 0, 1) := by decide +kernel
theorem dX14_fisherTold_6 : decode cX14_fisherTold 6 = .ok (.aload_n 0, 1) := by decide +kernel
theorem dX14_fisherTold_7 : decode cX14_fisherTold 7 = .ok (.getfield 47, 3) := by decide +kernel
theorem dX14_fisherTold_10 : decode cX14_fisherTold 10 = .ok (.getfield 282, 3) := by decide +kernel
theorem dX14_fisherTold_13 : decode cX14_fisherTold 13 = .ok (.iload_n 1, 1) := by decide +kernel
theorem dX14_fisherTold_14 : decode cX14_fisherTold 14 = .ok (.iaload, 1) := by decide +kernel
theorem dX14_fisherTold_15 : decode cX14_fisherTold 15 = .ok (.iastore, 1) := by decide +kernel
theorem dX14_fisherTold_16 : decode cX14_fisherTold 16 = .ok (.dup, 1) := by decide +kernel
theorem dX14_fisherTold_17 : decode cX14_fisherTold 17 = .ok (.iconst 1, 1) := by decide +kernel
theorem dX14_fisherTold_18 : decode cX14_fisherTold 18 = .ok (.aload_n 0, 1) := by decide +kernel
theorem dX14_fisherTold_19 : decode cX14_fisherTold 19 = .ok (.getfield 35, 3) := by decide +kernel
theorem dX14_fisherTold_22 : decode cX14_fisherTold 22 = .ok (.getfield 241, 3) := by decide +kernel
theorem dX14_fisherTold_25 : decode cX14_fisherTold 25 = .ok (.iload_n 1, 1) := by decide +kernel
theorem dX14_fisherTold_26 : decode cX14_fisherTold 26 = .ok (.iaload, 1) := by decide +kernel
theorem dX14_fisherTold_27 : decode cX14_fisherTold 27 = .ok (.iastore, 1) := by decide +kernel
theorem dX14_fisherTold_28 : decode cX14_fisherTold 28 = .ok (.dup, 1) := by decide +kernel
theorem dX14_fisherTold_29 : decode cX14_fisherTold 29 = .ok (.iconst 2, 1) := by decide +kernel
theorem dX14_fisherTold_30 : decode cX14_fisherTold 30 = .ok (.aload_n 0, 1) := by decide +kernel
theorem dX14_fisherTold_31 : decode cX14_fisherTold 31 = .ok (.getfield 35, 3) := by decide +kernel
theorem dX14_fisherTold_34 : decode cX14_fisherTold 34 = .ok (.getfield 244, 3) := by decide +kernel
theorem dX14_fisherTold_37 : decode cX14_fisherTold 37 = .ok (.iload_n 1, 1) := by decide +kernel
theorem dX14_fisherTold_38 : decode cX14_fisherTold 38 = .ok (.iaload, 1) := by decide +kernel
theorem dX14_fisherTold_39 : decode cX14_fisherTold 39 = .ok (.iastore, 1) := by decide +kernel
theorem dX14_fisherTold_40 : decode cX14_fisherTold 40 = .ok (.dup, 1) := by decide +kernel
theorem dX14_fisherTold_41 : decode cX14_fisherTold 41 = .ok (.iconst 3, 1) := by decide +kernel
theorem dX14_fisherTold_42 : decode cX14_fisherTold 42 = .ok (.aload_n 0, 1) := by decide +kernel
theorem dX14_fisherTold_43 : decode cX14_fisherTold 43 = .ok (.getfield 35, 3) := by decide +kernel
theorem dX14_fisherTold_46 : decode cX14_fisherTold 46 = .ok (.getfield 247, 3) := by decide +kernel
theorem dX14_fisherTold_49 : decode cX14_fisherTold 49 = .ok (.iload_n 1, 1) := by decide +kernel
theorem dX14_fisherTold_50 : decode cX14_fisherTold 50 = .ok (.iaload, 1) := by decide +kernel
theorem dX14_fisherTold_51 : decode cX14_fisherTold 51 = .ok (.iastore, 1) := by decide +kernel
theorem dX14_fisherTold_52 : decode cX14_fisherTold 52 = .ok (.dup, 1) := by decide +kernel
theorem dX14_fisherTold_53 : decode cX14_fisherTold 53 = .ok (.iconst 4, 1) := by decide +kernel
theorem dX14_fisherTold_54 : decode cX14_fisherTold 54 = .ok (.aload_n 0, 1) := by decide +kernel
theorem dX14_fisherTold_55 : decode cX14_fisherTold 55 = .ok (.getfield 47, 3) := by decide +kernel
theorem dX14_fisherTold_58 : decode cX14_fisherTold 58 = .ok (.getfield 290, 3) := by decide +kernel
theorem dX14_fisherTold_61 : decode cX14_fisherTold 61 = .ok (.iload_n 1, 1) := by decide +kernel
theorem dX14_fisherTold_62 : decode cX14_fisherTold 62 = .ok (.iaload, 1) := by decide +kernel
theorem dX14_fisherTold_63 : decode cX14_fisherTold 63 = .ok (.iastore, 1) := by decide +kernel
theorem dX14_fisherTold_64 : decode cX14_fisherTold 64 = .ok (.dup, 1) := by decide +kernel
theorem dX14_fisherTold_65 : decode cX14_fisherTold 65 = .ok (.iconst 5, 1) := by decide +kernel
theorem dX14_fisherTold_66 : decode cX14_fisherTold 66 = .ok (.aload_n 0, 1) := by decide +kernel
theorem dX14_fisherTold_67 : decode cX14_fisherTold 67 = .ok (.getfield 47, 3) := by decide +kernel
theorem dX14_fisherTold_70 : decode cX14_fisherTold 70 = .ok (.getfield 317, 3) := by decide +kernel
theorem dX14_fisherTold_73 : decode cX14_fisherTold 73 = .ok (.iload_n 1, 1) := by decide +kernel
theorem dX14_fisherTold_74 : decode cX14_fisherTold 74 = .ok (.iaload, 1) := by decide +kernel
theorem dX14_fisherTold_75 : decode cX14_fisherTold 75 = .ok (.iastore, 1) := by decide +kernel
theorem dX14_fisherTold_76 : decode cX14_fisherTold 76 = .ok (.dup, 1) := by decide +kernel
theorem dX14_fisherTold_77 : decode cX14_fisherTold 77 = .ok (.bipush 6, 2) := by decide +kernel
theorem dX14_fisherTold_79 : decode cX14_fisherTold 79 = .ok (.aload_n 0, 1) := by decide +kernel
theorem dX14_fisherTold_80 : decode cX14_fisherTold 80 = .ok (.getfield 47, 3) := by decide +kernel
theorem dX14_fisherTold_83 : decode cX14_fisherTold 83 = .ok (.getfield 320, 3) := by decide +kernel
theorem dX14_fisherTold_86 : decode cX14_fisherTold 86 = .ok (.iload_n 1, 1) := by decide +kernel
theorem dX14_fisherTold_87 : decode cX14_fisherTold 87 = .ok (.iaload, 1) := by decide +kernel
theorem dX14_fisherTold_88 : decode cX14_fisherTold 88 = .ok (.iastore, 1) := by decide +kernel
theorem dX14_fisherTold_89 : decode cX14_fisherTold 89 = .ok (.dup, 1) := by decide +kernel
theorem dX14_fisherTold_90 : decode cX14_fisherTold 90 = .ok (.bipush 7, 2) := by decide +kernel
theorem dX14_fisherTold_92 : decode cX14_fisherTold 92 = .ok (.aload_n 0, 1) := by decide +kernel
theorem dX14_fisherTold_93 : decode cX14_fisherTold 93 = .ok (.getfield 47, 3) := by decide +kernel
theorem dX14_fisherTold_96 : decode cX14_fisherTold 96 = .ok (.getfield 323, 3) := by decide +kernel
theorem dX14_fisherTold_99 : decode cX14_fisherTold 99 = .ok (.iload_n 1, 1) := by decide +kernel
theorem dX14_fisherTold_100 : decode cX14_fisherTold 100 = .ok (.iaload, 1) := by decide +kernel
theorem dX14_fisherTold_101 : decode cX14_fisherTold 101 = .ok (.iastore, 1) := by decide +kernel
theorem dX14_fisherTold_102 : decode cX14_fisherTold 102 = .ok (.dup, 1) := by decide +kernel
theorem dX14_fisherTold_103 : decode cX14_fisherTold 103 = .ok (.bipush 8, 2) := by decide +kernel
theorem dX14_fisherTold_105 : decode cX14_fisherTold 105 = .ok (.aload_n 0, 1) := by decide +kernel
theorem dX14_fisherTold_106 : decode cX14_fisherTold 106 = .ok (.getfield 47, 3) := by decide +kernel
theorem dX14_fisherTold_109 : decode cX14_fisherTold 109 = .ok (.getfield 293, 3) := by decide +kernel
theorem dX14_fisherTold_112 : decode cX14_fisherTold 112 = .ok (.iload_n 1, 1) := by decide +kernel
theorem dX14_fisherTold_113 : decode cX14_fisherTold 113 = .ok (.iaload, 1) := by decide +kernel
theorem dX14_fisherTold_114 : decode cX14_fisherTold 114 = .ok (.iastore, 1) := by decide +kernel
theorem dX14_fisherTold_115 : decode cX14_fisherTold 115 = .ok (.dup, 1) := by decide +kernel
theorem dX14_fisherTold_116 : decode cX14_fisherTold 116 = .ok (.bipush 9, 2) := by decide +kernel
theorem dX14_fisherTold_118 : decode cX14_fisherTold 118 = .ok (.aload_n 0, 1) := by decide +kernel
theorem dX14_fisherTold_119 : decode cX14_fisherTold 119 = .ok (.iload_n 1, 1) := by decide +kernel
theorem dX14_fisherTold_120 : decode cX14_fisherTold 120 = .ok (.invokevirtual 326, 3) := by decide +kernel
theorem dX14_fisherTold_123 : decode cX14_fisherTold 123 = .ok (.iastore, 1) := by decide +kernel
theorem dX14_fisherTold_124 : decode cX14_fisherTold 124 = .ok (.astore_n 3, 1) := by decide +kernel
theorem dX14_fisherTold_125 : decode cX14_fisherTold 125 = .ok (.aload_n 3, 1) := by decide +kernel
theorem dX14_fisherTold_126 : decode cX14_fisherTold 126 = .ok (.iload_n 2, 1) := by decide +kernel
theorem dX14_fisherTold_127 : decode cX14_fisherTold 127 = .ok (.iaload, 1) := by decide +kernel
theorem dX14_fisherTold_128 : decode cX14_fisherTold 128 = .ok (.ireturn, 1) := by decide +kernel
set_option maxRecDepth 20000 in
theorem ggX14_fisherTold_X14_takenBy : GoodIn wsX14_fisherTold wsX14_takenBy := goodIn_r _ [8, 3, 2, 9, 10, 11, 12, 13, 14, 15, 16, 17, 18, 19, 20, 21, 22, 23, 43, 44, 45, 46, 47, 48, 49, 50, 51, 52, 53, 54, 55, 56, 57, 58, 59, 60, 61, 62, 63, 64, 65, 66, 67, 24, 25, 26, 27, 28, 29, 30, 31, 32, 33, 34, 35, 36, 37, 38, 39, 40, 41, 42] (by decide +kernel) (by decide +kernel)
set_option maxRecDepth 20000 in
theorem gX14_fisherTold_X14_takenBy : GoodIn wsX14_fisherTold (wsV RX14 326 RX14 yX14_takenBy wsX14_takenBy) := goodIn_app (goodIn_of _ (by decide +kernel)) ggX14_fisherTold_X14_takenBy
theorem k_X14_fisherTold_acint : Cond.arrayClass .int ∈ wsX14_fisherTold := by decide +kernel
theorem k_X14_fisherTold_f47 : Cond.fieldLink RX14 47 "TideLotsModel" "s" "LTideLotsModel$State;" ∈ wsX14_fisherTold := by decide +kernel
theorem i_X14_fisherTold_X14 : ∀ w ∈ u_ws RX14 TX14 15, w ∈ wsX14_fisherTold := by decide +kernel
theorem i_X14_fisherTold_X12 : ∀ w ∈ u_ws RX12 TX12 19, w ∈ wsX14_fisherTold := by decide +kernel
theorem k_X14_fisherTold_f35 : Cond.fieldLink RX14 35 "TideLotsModel" "told" "LTideLotsModel$Told;" ∈ wsX14_fisherTold := by decide +kernel
theorem i_X14_fisherTold_X13 : ∀ w ∈ u_ws RX13 TX13 25, w ∈ wsX14_fisherTold := by decide +kernel
theorem kn_X14_317 : Cond.fieldLinkNest "TideLotsModel" (317 : Nat) "TideLotsModel$State" "caught" "[I" "TideLotsModel" ∈ gNs := by decide +kernel
theorem kn_X14_320 : Cond.fieldLinkNest "TideLotsModel" (320 : Nat) "TideLotsModel$State" "where" "[I" "TideLotsModel" ∈ gNs := by decide +kernel
theorem kn_X14_323 : Cond.fieldLinkNest "TideLotsModel" (323 : Nat) "TideLotsModel$State" "tears" "[I" "TideLotsModel" ∈ gNs := by decide +kernel
abbrev rX14_fisherTold : Room := { frames := 1, cells := 1, slots := 10, locals := 23 }
noncomputable def b_X14_fisherTold_0 (M : gMem) (x0 : Nat) (x1 : Int32) (x2 : Int32) : Option (Int32 × gMem) :=
  lw (nW M 20 ((10 : Int32)).toNatClampNeg) fun M1 => ck (mT M1 x0 = 13) <| dr ((mR M1 x0 13)) fun a3 => ck (mT M1 a3 = 11) <| dr ((mR M1 a3 5)) fun a5 => ck (mT M1 a5 = 20) <| ck (inb x1 (mL M1 a5)) <| ck (mT M1 (mN M) = 20) <| ck (inb (0 : Int32) (mL M1 (mN M))) <| lw (wI M1 (mN M) ((0 : Int32)).toNatClampNeg ((mI M1 a5 x1.toNatClampNeg))) fun M10 => dr ((mR M10 x0 11)) fun a15 => ck (mT M10 a15 = 12) <| dr ((mR M10 a15 5)) fun a17 => ck (mT M10 a17 = 20) <| ck (inb x1 (mL M10 a17)) <| ck (inb (1 : Int32) (mL M10 (mN M))) <| lw (wI M10 (mN M) ((1 : Int32)).toNatClampNeg ((mI M10 a17 x1.toNatClampNeg))) fun M21 => dr ((mR M21 x0 11)) fun a28 => ck (mT M21 a28 = 12) <| dr ((mR M21 a28 6)) fun a30 => ck (mT M21 a30 = 20) <| ck (inb x1 (mL M21 a30)) <| ck (inb (2 : Int32) (mL M21 (mN M))) <| lw (wI M21 (mN M) ((2 : Int32)).toNatClampNeg ((mI M21 a30 x1.toNatClampNeg))) fun M34 => dr ((mR M34 x0 11)) fun a43 => ck (mT M34 a43 = 12) <| dr ((mR M34 a43 7)) fun a45 => ck (mT M34 a45 = 20) <| ck (inb x1 (mL M34 a45)) <| ck (inb (3 : Int32) (mL M34 (mN M))) <| lw (wI M34 (mN M) ((3 : Int32)).toNatClampNeg ((mI M34 a45 x1.toNatClampNeg))) fun M49 => dr ((mR M49 x0 13)) fun a60 => ck (mT M49 a60 = 11) <| dr ((mR M49 a60 6)) fun a62 => ck (mT M49 a62 = 20) <| ck (inb x1 (mL M49 a62)) <| ck (inb (4 : Int32) (mL M49 (mN M))) <| lw (wI M49 (mN M) ((4 : Int32)).toNatClampNeg ((mI M49 a62 x1.toNatClampNeg))) fun M66 => dr ((mR M66 x0 13)) fun a79 => ck (mT M66 a79 = 11) <| dr ((mR M66 a79 7)) fun a81 => ck (mT M66 a81 = 20) <| ck (inb x1 (mL M66 a81)) <| ck (inb (5 : Int32) (mL M66 (mN M))) <| lw (wI M66 (mN M) ((5 : Int32)).toNatClampNeg ((mI M66 a81 x1.toNatClampNeg))) fun M85 => dr ((mR M85 x0 13)) fun a100 => ck (mT M85 a100 = 11) <| dr ((mR M85 a100 8)) fun a102 => ck (mT M85 a102 = 20) <| ck (inb x1 (mL M85 a102)) <| ck (inb (6 : Int32) (mL M85 (mN M))) <| lw (wI M85 (mN M) ((6 : Int32)).toNatClampNeg ((mI M85 a102 x1.toNatClampNeg))) fun M106 => dr ((mR M106 x0 13)) fun a123 => ck (mT M106 a123 = 11) <| dr ((mR M106 a123 9)) fun a125 => ck (mT M106 a125 = 20) <| ck (inb x1 (mL M106 a125)) <| ck (inb (7 : Int32) (mL M106 (mN M))) <| lw (wI M106 (mN M) ((7 : Int32)).toNatClampNeg ((mI M106 a125 x1.toNatClampNeg))) fun M129 => dr ((mR M129 x0 13)) fun a148 => ck (mT M129 a148 = 11) <| dr ((mR M129 a148 10)) fun a150 => ck (mT M129 a150 = 20) <| ck (inb x1 (mL M129 a150)) <| ck (inb (8 : Int32) (mL M129 (mN M))) <| lw (wI M129 (mN M) ((8 : Int32)).toNatClampNeg ((mI M129 a150 x1.toNatClampNeg))) fun M154 => bd (f_X14_takenBy M154 x0 x1) fun r175 M175 => ck (mT M175 (mN M) = 20) <| ck (inb (9 : Int32) (mL M175 (mN M))) <| lw (wI M175 (mN M) ((9 : Int32)).toNatClampNeg r175) fun M178 => ck (inb x2 (mL M178 (mN M))) <| some ((mI M178 (mN M) x2.toNatClampNeg), M178)
noncomputable def f_X14_fisherTold (M : gMem) (x0 : Nat) (x1 : Int32) (x2 : Int32) : Option (Int32 × gMem) :=
  b_X14_fisherTold_0 M x0 x1 x2
set_option maxHeartbeats 4000000 in
set_option maxRecDepth 100000 in
theorem t_X14_fisherTold_0 (X : gX p s m args meth c D cy B (gSt Z B H0) RX14 cX14_fisherTold wsX14_fisherTold 4) (hr : meth.sig.returnType = (some .int)) {Q : State → Prop} : ∀ (M : gMem) (x0 : Nat) (x1 : Int32) (x2 : Int32) (z : Int32 × gMem), b_X14_fisherTold_0 M x0 x1 x2 = some z → (fun (r : Int32 × gMem) => Q = gMQ below D cy B H0 args s 1 10 (some (vI r.1)) r.2) z → gGo p l e rX14_fisherTold s m args below meth c D cy B H0 4 0 0 Q 0 [(0, vR (some x0)), (1, vI x1), (2, vI x2)] [] M := by
  intro M x0 x1 x2 z hf hK
  unfold b_X14_fisherTold_0 at hf
  refine g_bipush (v := (10 : Int32)) X dX14_fisherTold_0 (by decide) ?_
  refine g_newa (at' := .int) (t0 := 0) X k_X14_fisherTold_acint (by exact Or.inl ⟨rfl, rfl⟩) (by decide) (by decide) ⟨by decide, by decide⟩ dX14_fisherTold_2 ?_
  obtain ⟨M1, hM1, hf⟩ := lw_e hf
  rw [← hM1]
  refine g_dup X dX14_fisherTold_4 rfl ?_
  refine g_iconst (v := (0 : Int32)) X dX14_fisherTold_5 (by decide) ?_
  refine g_aload_n X dX14_fisherTold_6 rfl rfl ?_
  obtain ⟨hT2, hf⟩ := ck_e hf
  refine g_get (ci := 12) (v := vR (mR M1 x0 13)) 13 X cdX14 i_X14_fisherTold_X14 (by decide) k_X14_fisherTold_f47 rfl dX14_fisherTold_7 rfl hT2 rfl ?_
  obtain ⟨a3, ha3, hf⟩ := dr_e hf
  obtain ⟨hT4, hf⟩ := ck_e hf
  refine g_getN (ci := 10) (w := vR (mR M1 a3 5)) 5 X cdX12 i_X14_fisherTold_X12 (by decide) (gNw X _ kn_X14_282) rfl dX14_fisherTold_10 ha3 hT4 rfl ?_
  refine g_iload_n X dX14_fisherTold_13 rfl rfl ?_
  obtain ⟨a5, ha5, hf⟩ := dr_e hf
  obtain ⟨hT6, hf⟩ := ck_e hf
  obtain ⟨hg7, hf⟩ := ck_e hf
  refine g_iald X dX14_fisherTold_14 ha5 hT6 hg7 ?_
  obtain ⟨hT8, hf⟩ := ck_e hf
  obtain ⟨hg9, hf⟩ := ck_e hf
  refine g_iast X dX14_fisherTold_15 rfl hT8 hg9 ?_
  obtain ⟨M10, hM10, hf⟩ := lw_e hf
  rw [← hM10]
  have hT11 : mT M10 x0 = 13 := by rw [hM10]; exact hT2
  have hT12 : mT M10 a3 = 11 := by rw [hM10]; exact hT4
  have hT13 : mT M10 a5 = 20 := by rw [hM10]; exact hT6
  have hT14 : mT M10 (mN M) = 20 := by rw [hM10]; exact hT8
  refine g_dup X dX14_fisherTold_16 rfl ?_
  refine g_iconst (v := (1 : Int32)) X dX14_fisherTold_17 (by decide) ?_
  refine g_aload_n X dX14_fisherTold_18 rfl rfl ?_
  refine g_get (ci := 12) (v := vR (mR M10 x0 11)) 11 X cdX14 i_X14_fisherTold_X14 (by decide) k_X14_fisherTold_f35 rfl dX14_fisherTold_19 rfl hT11 rfl ?_
  obtain ⟨a15, ha15, hf⟩ := dr_e hf
  obtain ⟨hT16, hf⟩ := ck_e hf
  refine g_getN (ci := 11) (w := vR (mR M10 a15 5)) 5 X cdX13 i_X14_fisherTold_X13 (by decide) (gNw X _ kn_X14_241) rfl dX14_fisherTold_22 ha15 hT16 rfl ?_
  refine g_iload_n X dX14_fisherTold_25 rfl rfl ?_
  obtain ⟨a17, ha17, hf⟩ := dr_e hf
  obtain ⟨hT18, hf⟩ := ck_e hf
  obtain ⟨hg19, hf⟩ := ck_e hf
  refine g_iald X dX14_fisherTold_26 ha17 hT18 hg19 ?_
  obtain ⟨hg20, hf⟩ := ck_e hf
  refine g_iast X dX14_fisherTold_27 rfl hT14 hg20 ?_
  obtain ⟨M21, hM21, hf⟩ := lw_e hf
  rw [← hM21]
  have hT22 : mT M21 x0 = 13 := by rw [hM21]; exact hT11
  have hT23 : mT M21 a3 = 11 := by rw [hM21]; exact hT12
  have hT24 : mT M21 a5 = 20 := by rw [hM21]; exact hT13
  have hT25 : mT M21 (mN M) = 20 := by rw [hM21]; exact hT14
  have hT26 : mT M21 a15 = 12 := by rw [hM21]; exact hT16
  have hT27 : mT M21 a17 = 20 := by rw [hM21]; exact hT18
  refine g_dup X dX14_fisherTold_28 rfl ?_
  refine g_iconst (v := (2 : Int32)) X dX14_fisherTold_29 (by decide) ?_
  refine g_aload_n X dX14_fisherTold_30 rfl rfl ?_
  refine g_get (ci := 12) (v := vR (mR M21 x0 11)) 11 X cdX14 i_X14_fisherTold_X14 (by decide) k_X14_fisherTold_f35 rfl dX14_fisherTold_31 rfl hT22 rfl ?_
  obtain ⟨a28, ha28, hf⟩ := dr_e hf
  obtain ⟨hT29, hf⟩ := ck_e hf
  refine g_getN (ci := 11) (w := vR (mR M21 a28 6)) 6 X cdX13 i_X14_fisherTold_X13 (by decide) (gNw X _ kn_X14_244) rfl dX14_fisherTold_34 ha28 hT29 rfl ?_
  refine g_iload_n X dX14_fisherTold_37 rfl rfl ?_
  obtain ⟨a30, ha30, hf⟩ := dr_e hf
  obtain ⟨hT31, hf⟩ := ck_e hf
  obtain ⟨hg32, hf⟩ := ck_e hf
  refine g_iald X dX14_fisherTold_38 ha30 hT31 hg32 ?_
  obtain ⟨hg33, hf⟩ := ck_e hf
  refine g_iast X dX14_fisherTold_39 rfl hT25 hg33 ?_
  obtain ⟨M34, hM34, hf⟩ := lw_e hf
  rw [← hM34]
  have hT35 : mT M34 x0 = 13 := by rw [hM34]; exact hT22
  have hT36 : mT M34 a3 = 11 := by rw [hM34]; exact hT23
  have hT37 : mT M34 a5 = 20 := by rw [hM34]; exact hT24
  have hT38 : mT M34 (mN M) = 20 := by rw [hM34]; exact hT25
  have hT39 : mT M34 a15 = 12 := by rw [hM34]; exact hT26
  have hT40 : mT M34 a17 = 20 := by rw [hM34]; exact hT27
  have hT41 : mT M34 a28 = 12 := by rw [hM34]; exact hT29
  have hT42 : mT M34 a30 = 20 := by rw [hM34]; exact hT31
  refine g_dup X dX14_fisherTold_40 rfl ?_
  refine g_iconst (v := (3 : Int32)) X dX14_fisherTold_41 (by decide) ?_
  refine g_aload_n X dX14_fisherTold_42 rfl rfl ?_
  refine g_get (ci := 12) (v := vR (mR M34 x0 11)) 11 X cdX14 i_X14_fisherTold_X14 (by decide) k_X14_fisherTold_f35 rfl dX14_fisherTold_43 rfl hT35 rfl ?_
  obtain ⟨a43, ha43, hf⟩ := dr_e hf
  obtain ⟨hT44, hf⟩ := ck_e hf
  refine g_getN (ci := 11) (w := vR (mR M34 a43 7)) 7 X cdX13 i_X14_fisherTold_X13 (by decide) (gNw X _ kn_X14_247) rfl dX14_fisherTold_46 ha43 hT44 rfl ?_
  refine g_iload_n X dX14_fisherTold_49 rfl rfl ?_
  obtain ⟨a45, ha45, hf⟩ := dr_e hf
  obtain ⟨hT46, hf⟩ := ck_e hf
  obtain ⟨hg47, hf⟩ := ck_e hf
  refine g_iald X dX14_fisherTold_50 ha45 hT46 hg47 ?_
  obtain ⟨hg48, hf⟩ := ck_e hf
  refine g_iast X dX14_fisherTold_51 rfl hT38 hg48 ?_
  obtain ⟨M49, hM49, hf⟩ := lw_e hf
  rw [← hM49]
  have hT50 : mT M49 x0 = 13 := by rw [hM49]; exact hT35
  have hT51 : mT M49 a3 = 11 := by rw [hM49]; exact hT36
  have hT52 : mT M49 a5 = 20 := by rw [hM49]; exact hT37
  have hT53 : mT M49 (mN M) = 20 := by rw [hM49]; exact hT38
  have hT54 : mT M49 a15 = 12 := by rw [hM49]; exact hT39
  have hT55 : mT M49 a17 = 20 := by rw [hM49]; exact hT40
  have hT56 : mT M49 a28 = 12 := by rw [hM49]; exact hT41
  have hT57 : mT M49 a30 = 20 := by rw [hM49]; exact hT42
  have hT58 : mT M49 a43 = 12 := by rw [hM49]; exact hT44
  have hT59 : mT M49 a45 = 20 := by rw [hM49]; exact hT46
  refine g_dup X dX14_fisherTold_52 rfl ?_
  refine g_iconst (v := (4 : Int32)) X dX14_fisherTold_53 (by decide) ?_
  refine g_aload_n X dX14_fisherTold_54 rfl rfl ?_
  refine g_get (ci := 12) (v := vR (mR M49 x0 13)) 13 X cdX14 i_X14_fisherTold_X14 (by decide) k_X14_fisherTold_f47 rfl dX14_fisherTold_55 rfl hT50 rfl ?_
  obtain ⟨a60, ha60, hf⟩ := dr_e hf
  obtain ⟨hT61, hf⟩ := ck_e hf
  refine g_getN (ci := 10) (w := vR (mR M49 a60 6)) 6 X cdX12 i_X14_fisherTold_X12 (by decide) (gNw X _ kn_X14_290) rfl dX14_fisherTold_58 ha60 hT61 rfl ?_
  refine g_iload_n X dX14_fisherTold_61 rfl rfl ?_
  obtain ⟨a62, ha62, hf⟩ := dr_e hf
  obtain ⟨hT63, hf⟩ := ck_e hf
  obtain ⟨hg64, hf⟩ := ck_e hf
  refine g_iald X dX14_fisherTold_62 ha62 hT63 hg64 ?_
  obtain ⟨hg65, hf⟩ := ck_e hf
  refine g_iast X dX14_fisherTold_63 rfl hT53 hg65 ?_
  obtain ⟨M66, hM66, hf⟩ := lw_e hf
  rw [← hM66]
  have hT67 : mT M66 x0 = 13 := by rw [hM66]; exact hT50
  have hT68 : mT M66 a3 = 11 := by rw [hM66]; exact hT51
  have hT69 : mT M66 a5 = 20 := by rw [hM66]; exact hT52
  have hT70 : mT M66 (mN M) = 20 := by rw [hM66]; exact hT53
  have hT71 : mT M66 a15 = 12 := by rw [hM66]; exact hT54
  have hT72 : mT M66 a17 = 20 := by rw [hM66]; exact hT55
  have hT73 : mT M66 a28 = 12 := by rw [hM66]; exact hT56
  have hT74 : mT M66 a30 = 20 := by rw [hM66]; exact hT57
  have hT75 : mT M66 a43 = 12 := by rw [hM66]; exact hT58
  have hT76 : mT M66 a45 = 20 := by rw [hM66]; exact hT59
  have hT77 : mT M66 a60 = 11 := by rw [hM66]; exact hT61
  have hT78 : mT M66 a62 = 20 := by rw [hM66]; exact hT63
  refine g_dup X dX14_fisherTold_64 rfl ?_
  refine g_iconst (v := (5 : Int32)) X dX14_fisherTold_65 (by decide) ?_
  refine g_aload_n X dX14_fisherTold_66 rfl rfl ?_
  refine g_get (ci := 12) (v := vR (mR M66 x0 13)) 13 X cdX14 i_X14_fisherTold_X14 (by decide) k_X14_fisherTold_f47 rfl dX14_fisherTold_67 rfl hT67 rfl ?_
  obtain ⟨a79, ha79, hf⟩ := dr_e hf
  obtain ⟨hT80, hf⟩ := ck_e hf
  refine g_getN (ci := 10) (w := vR (mR M66 a79 7)) 7 X cdX12 i_X14_fisherTold_X12 (by decide) (gNw X _ kn_X14_317) rfl dX14_fisherTold_70 ha79 hT80 rfl ?_
  refine g_iload_n X dX14_fisherTold_73 rfl rfl ?_
  obtain ⟨a81, ha81, hf⟩ := dr_e hf
  obtain ⟨hT82, hf⟩ := ck_e hf
  obtain ⟨hg83, hf⟩ := ck_e hf
  refine g_iald X dX14_fisherTold_74 ha81 hT82 hg83 ?_
  obtain ⟨hg84, hf⟩ := ck_e hf
  refine g_iast X dX14_fisherTold_75 rfl hT70 hg84 ?_
  obtain ⟨M85, hM85, hf⟩ := lw_e hf
  rw [← hM85]
  have hT86 : mT M85 x0 = 13 := by rw [hM85]; exact hT67
  have hT87 : mT M85 a3 = 11 := by rw [hM85]; exact hT68
  have hT88 : mT M85 a5 = 20 := by rw [hM85]; exact hT69
  have hT89 : mT M85 (mN M) = 20 := by rw [hM85]; exact hT70
  have hT90 : mT M85 a15 = 12 := by rw [hM85]; exact hT71
  have hT91 : mT M85 a17 = 20 := by rw [hM85]; exact hT72
  have hT92 : mT M85 a28 = 12 := by rw [hM85]; exact hT73
  have hT93 : mT M85 a30 = 20 := by rw [hM85]; exact hT74
  have hT94 : mT M85 a43 = 12 := by rw [hM85]; exact hT75
  have hT95 : mT M85 a45 = 20 := by rw [hM85]; exact hT76
  have hT96 : mT M85 a60 = 11 := by rw [hM85]; exact hT77
  have hT97 : mT M85 a62 = 20 := by rw [hM85]; exact hT78
  have hT98 : mT M85 a79 = 11 := by rw [hM85]; exact hT80
  have hT99 : mT M85 a81 = 20 := by rw [hM85]; exact hT82
  refine g_dup X dX14_fisherTold_76 rfl ?_
  refine g_bipush (v := (6 : Int32)) X dX14_fisherTold_77 (by decide) ?_
  refine g_aload_n X dX14_fisherTold_79 rfl rfl ?_
  refine g_get (ci := 12) (v := vR (mR M85 x0 13)) 13 X cdX14 i_X14_fisherTold_X14 (by decide) k_X14_fisherTold_f47 rfl dX14_fisherTold_80 rfl hT86 rfl ?_
  obtain ⟨a100, ha100, hf⟩ := dr_e hf
  obtain ⟨hT101, hf⟩ := ck_e hf
  refine g_getN (ci := 10) (w := vR (mR M85 a100 8)) 8 X cdX12 i_X14_fisherTold_X12 (by decide) (gNw X _ kn_X14_320) rfl dX14_fisherTold_83 ha100 hT101 rfl ?_
  refine g_iload_n X dX14_fisherTold_86 rfl rfl ?_
  obtain ⟨a102, ha102, hf⟩ := dr_e hf
  obtain ⟨hT103, hf⟩ := ck_e hf
  obtain ⟨hg104, hf⟩ := ck_e hf
  refine g_iald X dX14_fisherTold_87 ha102 hT103 hg104 ?_
  obtain ⟨hg105, hf⟩ := ck_e hf
  refine g_iast X dX14_fisherTold_88 rfl hT89 hg105 ?_
  obtain ⟨M106, hM106, hf⟩ := lw_e hf
  rw [← hM106]
  have hT107 : mT M106 x0 = 13 := by rw [hM106]; exact hT86
  have hT108 : mT M106 a3 = 11 := by rw [hM106]; exact hT87
  have hT109 : mT M106 a5 = 20 := by rw [hM106]; exact hT88
  have hT110 : mT M106 (mN M) = 20 := by rw [hM106]; exact hT89
  have hT111 : mT M106 a15 = 12 := by rw [hM106]; exact hT90
  have hT112 : mT M106 a17 = 20 := by rw [hM106]; exact hT91
  have hT113 : mT M106 a28 = 12 := by rw [hM106]; exact hT92
  have hT114 : mT M106 a30 = 20 := by rw [hM106]; exact hT93
  have hT115 : mT M106 a43 = 12 := by rw [hM106]; exact hT94
  have hT116 : mT M106 a45 = 20 := by rw [hM106]; exact hT95
  have hT117 : mT M106 a60 = 11 := by rw [hM106]; exact hT96
  have hT118 : mT M106 a62 = 20 := by rw [hM106]; exact hT97
  have hT119 : mT M106 a79 = 11 := by rw [hM106]; exact hT98
  have hT120 : mT M106 a81 = 20 := by rw [hM106]; exact hT99
  have hT121 : mT M106 a100 = 11 := by rw [hM106]; exact hT101
  have hT122 : mT M106 a102 = 20 := by rw [hM106]; exact hT103
  refine g_dup X dX14_fisherTold_89 rfl ?_
  refine g_bipush (v := (7 : Int32)) X dX14_fisherTold_90 (by decide) ?_
  refine g_aload_n X dX14_fisherTold_92 rfl rfl ?_
  refine g_get (ci := 12) (v := vR (mR M106 x0 13)) 13 X cdX14 i_X14_fisherTold_X14 (by decide) k_X14_fisherTold_f47 rfl dX14_fisherTold_93 rfl hT107 rfl ?_
  obtain ⟨a123, ha123, hf⟩ := dr_e hf
  obtain ⟨hT124, hf⟩ := ck_e hf
  refine g_getN (ci := 10) (w := vR (mR M106 a123 9)) 9 X cdX12 i_X14_fisherTold_X12 (by decide) (gNw X _ kn_X14_323) rfl dX14_fisherTold_96 ha123 hT124 rfl ?_
  refine g_iload_n X dX14_fisherTold_99 rfl rfl ?_
  obtain ⟨a125, ha125, hf⟩ := dr_e hf
  obtain ⟨hT126, hf⟩ := ck_e hf
  obtain ⟨hg127, hf⟩ := ck_e hf
  refine g_iald X dX14_fisherTold_100 ha125 hT126 hg127 ?_
  obtain ⟨hg128, hf⟩ := ck_e hf
  refine g_iast X dX14_fisherTold_101 rfl hT110 hg128 ?_
  obtain ⟨M129, hM129, hf⟩ := lw_e hf
  rw [← hM129]
  have hT130 : mT M129 x0 = 13 := by rw [hM129]; exact hT107
  have hT131 : mT M129 a3 = 11 := by rw [hM129]; exact hT108
  have hT132 : mT M129 a5 = 20 := by rw [hM129]; exact hT109
  have hT133 : mT M129 (mN M) = 20 := by rw [hM129]; exact hT110
  have hT134 : mT M129 a15 = 12 := by rw [hM129]; exact hT111
  have hT135 : mT M129 a17 = 20 := by rw [hM129]; exact hT112
  have hT136 : mT M129 a28 = 12 := by rw [hM129]; exact hT113
  have hT137 : mT M129 a30 = 20 := by rw [hM129]; exact hT114
  have hT138 : mT M129 a43 = 12 := by rw [hM129]; exact hT115
  have hT139 : mT M129 a45 = 20 := by rw [hM129]; exact hT116
  have hT140 : mT M129 a60 = 11 := by rw [hM129]; exact hT117
  have hT141 : mT M129 a62 = 20 := by rw [hM129]; exact hT118
  have hT142 : mT M129 a79 = 11 := by rw [hM129]; exact hT119
  have hT143 : mT M129 a81 = 20 := by rw [hM129]; exact hT120
  have hT144 : mT M129 a100 = 11 := by rw [hM129]; exact hT121
  have hT145 : mT M129 a102 = 20 := by rw [hM129]; exact hT122
  have hT146 : mT M129 a123 = 11 := by rw [hM129]; exact hT124
  have hT147 : mT M129 a125 = 20 := by rw [hM129]; exact hT126
  refine g_dup X dX14_fisherTold_102 rfl ?_
  refine g_bipush (v := (8 : Int32)) X dX14_fisherTold_103 (by decide) ?_
  refine g_aload_n X dX14_fisherTold_105 rfl rfl ?_
  refine g_get (ci := 12) (v := vR (mR M129 x0 13)) 13 X cdX14 i_X14_fisherTold_X14 (by decide) k_X14_fisherTold_f47 rfl dX14_fisherTold_106 rfl hT130 rfl ?_
  obtain ⟨a148, ha148, hf⟩ := dr_e hf
  obtain ⟨hT149, hf⟩ := ck_e hf
  refine g_getN (ci := 10) (w := vR (mR M129 a148 10)) 10 X cdX12 i_X14_fisherTold_X12 (by decide) (gNw X _ kn_X14_293) rfl dX14_fisherTold_109 ha148 hT149 rfl ?_
  refine g_iload_n X dX14_fisherTold_112 rfl rfl ?_
  obtain ⟨a150, ha150, hf⟩ := dr_e hf
  obtain ⟨hT151, hf⟩ := ck_e hf
  obtain ⟨hg152, hf⟩ := ck_e hf
  refine g_iald X dX14_fisherTold_113 ha150 hT151 hg152 ?_
  obtain ⟨hg153, hf⟩ := ck_e hf
  refine g_iast X dX14_fisherTold_114 rfl hT133 hg153 ?_
  obtain ⟨M154, hM154, hf⟩ := lw_e hf
  rw [← hM154]
  have hT155 : mT M154 x0 = 13 := by rw [hM154]; exact hT130
  have hT156 : mT M154 a3 = 11 := by rw [hM154]; exact hT131
  have hT157 : mT M154 a5 = 20 := by rw [hM154]; exact hT132
  have hT158 : mT M154 (mN M) = 20 := by rw [hM154]; exact hT133
  have hT159 : mT M154 a15 = 12 := by rw [hM154]; exact hT134
  have hT160 : mT M154 a17 = 20 := by rw [hM154]; exact hT135
  have hT161 : mT M154 a28 = 12 := by rw [hM154]; exact hT136
  have hT162 : mT M154 a30 = 20 := by rw [hM154]; exact hT137
  have hT163 : mT M154 a43 = 12 := by rw [hM154]; exact hT138
  have hT164 : mT M154 a45 = 20 := by rw [hM154]; exact hT139
  have hT165 : mT M154 a60 = 11 := by rw [hM154]; exact hT140
  have hT166 : mT M154 a62 = 20 := by rw [hM154]; exact hT141
  have hT167 : mT M154 a79 = 11 := by rw [hM154]; exact hT142
  have hT168 : mT M154 a81 = 20 := by rw [hM154]; exact hT143
  have hT169 : mT M154 a100 = 11 := by rw [hM154]; exact hT144
  have hT170 : mT M154 a102 = 20 := by rw [hM154]; exact hT145
  have hT171 : mT M154 a123 = 11 := by rw [hM154]; exact hT146
  have hT172 : mT M154 a125 = 20 := by rw [hM154]; exact hT147
  have hT173 : mT M154 a148 = 11 := by rw [hM154]; exact hT149
  have hT174 : mT M154 a150 = 20 := by rw [hM154]; exact hT151
  refine g_dup X dX14_fisherTold_115 rfl ?_
  refine g_bipush (v := (9 : Int32)) X dX14_fisherTold_116 (by decide) ?_
  refine g_aload_n X dX14_fisherTold_118 rfl rfl ?_
  refine g_iload_n X dX14_fisherTold_119 rfl rfl ?_
  obtain ⟨r175, M175, hq175, hf⟩ := bd_e hf
  refine g_callV (ci := 12) (b := x0) (As := [vI x1]) (st := [vI (9 : Int32), vR (some (mN M)), vR (some (mN M))]) (v := some (vI r175)) (M1 := M175) X (m_X14_takenBy l hq175) (cwV 1 X.2.2.1 gX14_fisherTold_X14_takenBy rfl rfl rfl (by decide +kernel) ⟨Nat.le_of_ble_eq_true rfl, Nat.le_of_ble_eq_true rfl⟩) rfl rfl rfl hT155 (by decide) rfl (Nat.le_of_ble_eq_true rfl) dX14_fisherTold_120 ⟨by decide, by decide⟩ ?_
  obtain ⟨hT176, hf⟩ := ck_e hf
  obtain ⟨hg177, hf⟩ := ck_e hf
  refine g_iast X dX14_fisherTold_123 rfl hT176 hg177 ?_
  obtain ⟨M178, hM178, hf⟩ := lw_e hf
  rw [← hM178]
  have hT179 : mT M178 (mN M) = 20 := by rw [hM178]; exact hT176
  refine g_astore_n (lv' := [(3, vR (some (mN M))), (0, vR (some x0)), (1, vI x1), (2, vI x2)]) X dX14_fisherTold_124 rfl (by decide) rfl ?_
  refine g_aload_n X dX14_fisherTold_125 rfl rfl ?_
  refine g_iload_n X dX14_fisherTold_126 rfl rfl ?_
  obtain ⟨hg180, hf⟩ := ck_e hf
  refine g_iald X dX14_fisherTold_127 rfl hT179 hg180 ?_
  cases hf
  refine g_eqQ hK ?_
  exact g_iret X hr dX14_fisherTold_128
set_option maxHeartbeats 4000000 in
set_option maxRecDepth 100000 in
theorem m_X14_fisherTold (l : Launch) {D : va_G} {cy : Nat → ClassId} {B : Nat} {H0 : Heap} {Z : Nat → Nat} {M M1 : gMem} {x0 : Nat} {x1 : Int32} {x2 : Int32} {r : Int32} (hf : f_X14_fisherTold M x0 x1 x2 = some (r, M1)) : Met l yX14_fisherTold wsX14_fisherTold rX14_fisherTold (va_Pc (Value.ref x0 :: List.map gv [vI x1, vI x2]) (gPre D cy B H0 (gSt Z B H0) M)) (gQ D cy B H0 (some (vI r)) M1) 1 10 (gA B) := by
  refine Met.ofW (cc := cX14_fisherTold) (maxL := 4) (ret := (some .int)) (by decide) rfl ?_
  intro p e s m args below meth c s₁ Bd hml hv
  obtain ⟨rfl, hW, hKK, hFs⟩ := hv
  have X : gX p s m _ meth c D cy B (gSt Z B H0) RX14 cX14_fisherTold wsX14_fisherTold 4 := ⟨Bd.exec, Bd.bytes, atoms_spec (ws := wsX14_fisherTold) Bd.pre, findClass_of_methodNamed Bd.named, hml, hKK, by rw [hW.1]; exact hW.2.1, Bd.notSynchronized, hFs⟩
  have hr := Bd.returns
  have hl := lv_entry ([.ref x0, .int x1, .int x2]) (n := 4) (Nat.le_of_ble_eq_true rfl)
  show W p l e rX14_fisherTold s m _ below meth c s.heap [] 0 0 _ (entryFrame m ([.ref x0, .int x1, .int x2] : List Value).toArray 4)
  rw [lg_entry_eq]
  generalize (lg_sl ([.ref x0, .int x1, .int x2]) ++ List.replicate (4 - (lg_sl ([.ref x0, .int x1, .int x2])).length) Slot.unset).toArray = ls at hl ⊢
  have hl : lv_has ls 4 (List.map gq [(0, vR (some x0)), (1, vI x1), (2, vI x2)]) := hl
  exact t_X14_fisherTold_0 X hr _ _ _ _ _ hf rfl s.heap [] ls hW va_S.rf (lv_has_sub hl (lvsub_of _ _ [0, 1, 2] rfl))
/-! ## TideLotsModel.fisher(II)I -/
theorem dX14_fisher_0 : decode cX14_fisher 0 = .ok (.aload_n 0, 1) := by decide +kernel
theorem dX14_fisher_1 : decode cX14_fisher 1 = .ok (.iconst 0, 1) := by decide +kernel
theorem dX14_fisher_2 : decode cX14_fisher 2 = .ok (.putfield 57, 3) := by decide +kernel
theorem dX14_fisher_5 : decode cX14_fisher 5 = .ok (.aload_n 0, 1) := by decide +kernel
theorem dX14_fisher_6 : decode cX14_fisher 6 = .ok (.iload_n 1, 1) := by decide +kernel
theorem dX14_fisher_7 : decode cX14_fisher 7 = .ok (.invokevirtual 329, 3) := by decide +kernel
theorem dX14_fisher_10 : decode cX14_fisher 10 = .ok (.ifCond .eq 22, 3) := by decide +kernel
theorem dX14_fisher_13 : decode cX14_fisher 13 = .ok (.iload_n 2, 1) := by decide +kernel
theorem dX14_fisher_14 : decode cX14_fisher 14 = .ok (.iconst 0, 1) := by decide +kernel
theorem dX14_fisher_15 : decode cX14_fisher 15 = .ok (.bipush 9, 2) := by decide +kernel
theorem dX14_fisher_17 : decode cX14_fisher 17 = .ok (.invokestatic 63, 3) := by decide +kernel
theorem dX14_fisher_20 : decode cX14_fisher 20 = .ok (.ifCond .eq 12, 3) := by decide +kernel
theorem dX14_fisher_23 : decode cX14_fisher 23 = .ok (.aload_n 0, 1) := by decide +kernel
theorem dX14_fisher_24 : decode cX14_fisher 24 = .ok (.iload_n 1, 1) := by decide +kernel
theorem dX14_fisher_25 : decode cX14_fisher 25 = .ok (.iload_n 2, 1) := by decide +kernel
theorem dX14_fisher_26 : decode cX14_fisher 26 = .ok (.invokevirtual 332, 3) := by decide +kernel
theorem dX14_fisher_29 : decode cX14_fisher 29 = .ok (.goto 8, 3) := by decide +kernel
theorem dX14_fisher_32 : decode cX14_fisher 32 = .ok (.aload_n 0, 1) := by decide +kernel
theorem dX14_fisher_33 : decode cX14_fisher 33 = .ok (.iconst 1, 1) := by decide +kernel
theorem dX14_fisher_34 : decode cX14_fisher 34 = .ok (.invokevirtual 276, 3) := by decide +kernel
theorem dX14_fisher_37 : decode cX14_fisher 37 = .ok (.ireturn, 1) := by decide +kernel
set_option maxRecDepth 20000 in
theorem ggX14_fisher_X14_no : GoodIn wsX14_fisher wsX14_no := goodIn_r _ [24, 1, 25, 26, 27, 28, 29, 30, 31, 32, 33, 34, 35, 36, 37, 38, 39] (by decide +kernel) (by decide +kernel)
set_option maxRecDepth 20000 in
theorem gX14_fisher_X14_no : GoodIn wsX14_fisher (wsV RX14 276 RX14 yX14_no wsX14_no) := goodIn_app (goodIn_of _ (by decide +kernel)) ggX14_fisher_X14_no
set_option maxRecDepth 20000 in
theorem ggX14_fisher_X14_isFisher : GoodIn wsX14_fisher wsX14_isFisher := goodIn_r _ [6, 7, 8, 9, 5, 10, 25, 26, 27, 28, 29, 30, 31, 32, 33, 34, 35, 36, 37, 38, 39, 40, 41, 42, 43, 44, 45, 46, 47, 48, 49, 50, 51, 52, 53, 54, 55, 56, 57, 58, 59, 60, 61, 62, 63, 64] (by decide +kernel) (by decide +kernel)
set_option maxRecDepth 20000 in
theorem gX14_fisher_X14_isFisher : GoodIn wsX14_fisher (wsV RX14 329 RX14 yX14_isFisher wsX14_isFisher) := goodIn_app (goodIn_of _ (by decide +kernel)) ggX14_fisher_X14_isFisher
set_option maxRecDepth 20000 in
theorem ggX14_fisher_X14_isIn : GoodIn wsX14_fisher wsX14_isIn := goodIn_r _ [10] (by decide +kernel) (by decide +kernel)
set_option maxRecDepth 20000 in
theorem gX14_fisher_X14_isIn : GoodIn wsX14_fisher (va_wsS RX14 63 yX14_isIn wsX14_isIn) := goodIn_app (goodIn_of _ (by decide +kernel)) ggX14_fisher_X14_isIn
set_option maxRecDepth 20000 in
theorem ggX14_fisher_X14_fisherTold : GoodIn wsX14_fisher wsX14_fisherTold := goodIn_r _ [14, 15, 16, 7, 17, 18, 19, 5, 20, 25, 26, 27, 28, 29, 30, 31, 32, 33, 34, 35, 36, 37, 38, 39, 65, 66, 67, 68, 69, 70, 71, 72, 73, 74, 75, 76, 77, 78, 79, 80, 81, 82, 83, 40, 41, 42, 43, 44, 45, 46, 47, 48, 49, 50, 51, 52, 53, 54, 55, 56, 57, 58, 59, 60, 61, 62, 63, 64] (by decide +kernel) (by decide +kernel)
set_option maxRecDepth 20000 in
theorem gX14_fisher_X14_fisherTold : GoodIn wsX14_fisher (wsV RX14 332 RX14 yX14_fisherTold wsX14_fisherTold) := goodIn_app (goodIn_of _ (by decide +kernel)) ggX14_fisher_X14_fisherTold
theorem k_X14_fisher_f57 : Cond.fieldLink RX14 57 "TideLotsModel" "thrown" "I" ∈ wsX14_fisher := by decide +kernel
theorem i_X14_fisher_X14 : ∀ w ∈ u_ws RX14 TX14 15, w ∈ wsX14_fisher := by decide +kernel
abbrev rX14_fisher : Room := { frames := 2, cells := 1, slots := 10, locals := 46 }
noncomputable def b_X14_fisher_37 (M : gMem) (s0 : Int32) : Option (Int32 × gMem) :=
  some (s0, M)
noncomputable def b_X14_fisher_32 (M : gMem) (x0 : Nat) : Option (Int32 × gMem) :=
  ck (mT M x0 = 13) <| bd (f_X14_no M x0 ((1 : Int32))) fun r1 M1 => b_X14_fisher_37 M1 r1
noncomputable def b_X14_fisher_0 (M : gMem) (x0 : Nat) (x1 : Int32) (x2 : Int32) : Option (Int32 × gMem) :=
  ck (mT M x0 = 13) <| lw (wI M x0 0 ((0 : Int32))) fun M4 => bd (f_X14_isFisher M4 x0 x1) fun r6 M6 => (if r6 = 0 then b_X14_fisher_32 M6 x0 else bd (f_X14_isIn M6 x2 ((0 : Int32)) ((9 : Int32))) fun r7 M7 => (if r7 = 0 then b_X14_fisher_32 M7 x0 else ck (mT M7 x0 = 13) <| bd (f_X14_fisherTold M7 x0 x1 x2) fun r8 M8 => b_X14_fisher_37 M8 r8))
noncomputable def f_X14_fisher (M : gMem) (x0 : Nat) (x1 : Int32) (x2 : Int32) : Option (Int32 × gMem) :=
  b_X14_fisher_0 M x0 x1 x2
set_option maxHeartbeats 4000000 in
set_option maxRecDepth 100000 in
theorem t_X14_fisher_37 (X : gX p s m args meth c D cy B (gSt Z B H0) RX14 cX14_fisher wsX14_fisher 3) (hr : meth.sig.returnType = (some .int)) {Q : State → Prop} : ∀ (M : gMem) (s0 : Int32) (z : Int32 × gMem), b_X14_fisher_37 M s0 = some z → (fun (r : Int32 × gMem) => Q = gMQ below D cy B H0 args s 1 10 (some (vI r.1)) r.2) z → gGo p l e rX14_fisher s m args below meth c D cy B H0 3 1 10 Q 37 [] [vI s0] M := by
  intro M s0 z hf hK
  unfold b_X14_fisher_37 at hf
  cases hf
  refine g_eqQ hK ?_
  exact g_iret X hr dX14_fisher_37
set_option maxHeartbeats 4000000 in
set_option maxRecDepth 100000 in
theorem t_X14_fisher_32 (X : gX p s m args meth c D cy B (gSt Z B H0) RX14 cX14_fisher wsX14_fisher 3) (hr : meth.sig.returnType = (some .int)) {Q : State → Prop} : ∀ (M : gMem) (x0 : Nat) (z : Int32 × gMem), b_X14_fisher_32 M x0 = some z → (fun (r : Int32 × gMem) => Q = gMQ below D cy B H0 args s 1 10 (some (vI r.1)) r.2) z → gGo p l e rX14_fisher s m args below meth c D cy B H0 3 0 0 Q 32 [(0, vR (some x0))] [] M := by
  intro M x0 z hf hK
  unfold b_X14_fisher_32 at hf
  refine g_aload_n X dX14_fisher_32 rfl rfl ?_
  refine g_iconst (v := (1 : Int32)) X dX14_fisher_33 (by decide) ?_
  obtain ⟨hT2, hf⟩ := ck_e hf
  obtain ⟨r1, M1, hq1, hf⟩ := bd_e hf
  refine g_callV (ci := 12) (b := x0) (As := [vI (1 : Int32)]) (st := []) (v := some (vI r1)) (M1 := M1) X (m_X14_no l hq1) (cwV 1 X.2.2.1 gX14_fisher_X14_no rfl rfl rfl (by decide +kernel) ⟨Nat.le_of_ble_eq_true rfl, Nat.le_of_ble_eq_true rfl⟩) rfl rfl rfl hT2 (by decide) rfl (Nat.le_of_ble_eq_true rfl) dX14_fisher_34 ⟨by decide, by decide⟩ ?_
  refine g_sub (lvsub_of _ _ [] rfl) ?_
  refine g_wide (k' := 1) (n' := 10) (by decide) (by decide) ?_
  exact t_X14_fisher_37 X hr _ _ _ hf hK
set_option maxHeartbeats 4000000 in
set_option maxRecDepth 100000 in
theorem t_X14_fisher_0 (X : gX p s m args meth c D cy B (gSt Z B H0) RX14 cX14_fisher wsX14_fisher 3) (hr : meth.sig.returnType = (some .int)) {Q : State → Prop} : ∀ (M : gMem) (x0 : Nat) (x1 : Int32) (x2 : Int32) (z : Int32 × gMem), b_X14_fisher_0 M x0 x1 x2 = some z → (fun (r : Int32 × gMem) => Q = gMQ below D cy B H0 args s 1 10 (some (vI r.1)) r.2) z → gGo p l e rX14_fisher s m args below meth c D cy B H0 3 0 0 Q 0 [(0, vR (some x0)), (1, vI x1), (2, vI x2)] [] M := by
  intro M x0 x1 x2 z hf hK
  unfold b_X14_fisher_0 at hf
  refine g_aload_n X dX14_fisher_0 rfl rfl ?_
  refine g_iconst (v := (0 : Int32)) X dX14_fisher_1 (by decide) ?_
  obtain ⟨hT3, hf⟩ := ck_e hf
  refine g_putI (ci := 12) 0 X cdX14 i_X14_fisher_X14 (by decide) k_X14_fisher_f57 rfl dX14_fisher_2 rfl hT3 (Or.inl rfl) rfl rfl rfl ?_
  obtain ⟨M4, hM4, hf⟩ := lw_e hf
  rw [← hM4]
  have hT5 : mT M4 x0 = 13 := by rw [hM4]; exact hT3
  refine g_aload_n X dX14_fisher_5 rfl rfl ?_
  refine g_iload_n X dX14_fisher_6 rfl rfl ?_
  obtain ⟨r6, M6, hq6, hf⟩ := bd_e hf
  refine g_callV (ci := 12) (b := x0) (As := [vI x1]) (st := []) (v := some (vI r6)) (M1 := M6) X (m_X14_isFisher l hq6) (cwV 1 X.2.2.1 gX14_fisher_X14_isFisher rfl rfl rfl (by decide +kernel) ⟨Nat.le_of_ble_eq_true rfl, Nat.le_of_ble_eq_true rfl⟩) rfl rfl rfl hT5 (by decide) rfl (Nat.le_of_ble_eq_true rfl) dX14_fisher_7 ⟨by decide, by decide⟩ ?_
  refine g_if_eq (tgt := 32) X dX14_fisher_10 (by decide) (fun hc => ?_) (fun hc => ?_)
  · have hf := ife_t hc hf
    refine g_sub (lvsub_of _ _ [0] rfl) ?_
    exact t_X14_fisher_32 X hr _ _ _ hf hK
  · have hf := ife_f hc hf
    refine g_iload_n X dX14_fisher_13 rfl rfl ?_
    refine g_iconst (v := (0 : Int32)) X dX14_fisher_14 (by decide) ?_
    refine g_bipush (v := (9 : Int32)) X dX14_fisher_15 (by decide) ?_
    obtain ⟨r7, M7, hq7, hf⟩ := bd_e hf
    refine g_callS (As := [vI x2, vI (0 : Int32), vI (9 : Int32)]) (st := []) (v := some (vI r7)) (M1 := M7) X (m_X14_isIn l hq7) (va_cwS 3 X.2.2.1 gX14_fisher_X14_isIn rfl rfl rfl (by decide +kernel) ⟨Nat.le_of_ble_eq_true rfl, Nat.le_of_ble_eq_true rfl⟩) rfl rfl (Nat.le_of_ble_eq_true rfl) dX14_fisher_17 ⟨by decide, by decide⟩ ?_
    refine g_if_eq (tgt := 32) X dX14_fisher_20 (by decide) (fun hc => ?_) (fun hc => ?_)
    · have hf := ife_t hc hf
      refine g_sub (lvsub_of _ _ [0] rfl) ?_
      exact t_X14_fisher_32 X hr _ _ _ hf hK
    · have hf := ife_f hc hf
      refine g_aload_n X dX14_fisher_23 rfl rfl ?_
      refine g_iload_n X dX14_fisher_24 rfl rfl ?_
      refine g_iload_n X dX14_fisher_25 rfl rfl ?_
      obtain ⟨hT9, hf⟩ := ck_e hf
      obtain ⟨r8, M8, hq8, hf⟩ := bd_e hf
      refine g_callV (ci := 12) (b := x0) (As := [vI x1, vI x2]) (st := []) (v := some (vI r8)) (M1 := M8) X (m_X14_fisherTold l hq8) (cwV 2 X.2.2.1 gX14_fisher_X14_fisherTold rfl rfl rfl (by decide +kernel) ⟨Nat.le_of_ble_eq_true rfl, Nat.le_of_ble_eq_true rfl⟩) rfl rfl rfl hT9 (by decide) rfl (Nat.le_of_ble_eq_true rfl) dX14_fisher_26 ⟨by decide, by decide⟩ ?_
      refine g_goto (tgt := 37) X dX14_fisher_29 (by decide) ?_
      refine g_sub (lvsub_of _ _ [] rfl) ?_
      exact t_X14_fisher_37 X hr _ _ _ hf hK
set_option maxHeartbeats 4000000 in
set_option maxRecDepth 100000 in
theorem m_X14_fisher (l : Launch) {D : va_G} {cy : Nat → ClassId} {B : Nat} {H0 : Heap} {Z : Nat → Nat} {M M1 : gMem} {x0 : Nat} {x1 : Int32} {x2 : Int32} {r : Int32} (hf : f_X14_fisher M x0 x1 x2 = some (r, M1)) : Met l yX14_fisher wsX14_fisher rX14_fisher (va_Pc (Value.ref x0 :: List.map gv [vI x1, vI x2]) (gPre D cy B H0 (gSt Z B H0) M)) (gQ D cy B H0 (some (vI r)) M1) 1 10 (gA B) := by
  refine Met.ofW (cc := cX14_fisher) (maxL := 3) (ret := (some .int)) (by decide) rfl ?_
  intro p e s m args below meth c s₁ Bd hml hv
  obtain ⟨rfl, hW, hKK, hFs⟩ := hv
  have X : gX p s m _ meth c D cy B (gSt Z B H0) RX14 cX14_fisher wsX14_fisher 3 := ⟨Bd.exec, Bd.bytes, atoms_spec (ws := wsX14_fisher) Bd.pre, findClass_of_methodNamed Bd.named, hml, hKK, by rw [hW.1]; exact hW.2.1, Bd.notSynchronized, hFs⟩
  have hr := Bd.returns
  have hl := lv_entry ([.ref x0, .int x1, .int x2]) (n := 3) (Nat.le_of_ble_eq_true rfl)
  show W p l e rX14_fisher s m _ below meth c s.heap [] 0 0 _ (entryFrame m ([.ref x0, .int x1, .int x2] : List Value).toArray 3)
  rw [lg_entry_eq]
  generalize (lg_sl ([.ref x0, .int x1, .int x2]) ++ List.replicate (3 - (lg_sl ([.ref x0, .int x1, .int x2])).length) Slot.unset).toArray = ls at hl ⊢
  have hl : lv_has ls 3 (List.map gq [(0, vR (some x0)), (1, vI x1), (2, vI x2)]) := hl
  exact t_X14_fisher_0 X hr _ _ _ _ _ hf rfl s.heap [] ls hW va_S.rf (lv_has_sub hl (lvsub_of _ _ [0, 1, 2] rfl))
/-! ## TideLotsModel.pactTold(II)I -/
theorem dX14_pactTold_0 : decode cX14_pactTold 0 = .ok (.bipush 7, 2) := by decide +kernel
theorem dX14_pactTold_2 : decode cX14_pactTold 2 = .ok (.newarray .int, 2) := by decide +kernel
theorem dX14_pactTold_4 : decode cX14_pactTold 4 = .ok (.dup, 1) := by decide +kernel
theorem dX14_pactTold_5 : decode cX14_pactTold 5 = .ok (.iconst 0, 1) := by decide +kernel
theorem dX14_pactTold_6 : decode cX14_pactTold 6 = .ok (.aload_n 0, 1) := by decide +kernel
theorem dX14_pactTold_7 : decode cX14_pactTold 7 = .ok (.getfield 35, 3) := by decide +kernel
theorem dX14_pactTold_10 : decode cX14_pactTold 10 = .ok (.getfield 225, 3) := by decide +kernel
theorem dX14_pactTold_13 : decode cX14_pactTold 13 = .ok (.iload_n 1, 1) := by decide +kernel
theorem dX14_pactTold_14 : decode cX14_pactTold 14 = .ok (.iaload, 1) := by decide +kernel
theorem dX14_pactTold_15 : decode cX14_pactTold 15 = .ok (.iconst (-1), 1) := by decide +kernel
theorem dX14_pactTold_16 : decode cX14_pactTold 16 = .ok (.if_icmp .ne 7, 3) := by decide +kernel
theorem dX14_pactTold_19 : decode cX14_pactTold 19 = .ok (.iconst 0, 1) := by decide +kernel
theorem dX14_pactTold_20 : decode cX14_pactTold 20 = .ok (.goto 4, 3) := by decide +kernel
theorem dX14_pactTold_23 : decode cX14_pactTold 23 = .ok (.iconst 1, 1) := by decide +kernel
theorem dX14_pactTold_24 : decode cX14_pactTold 24 = .ok (.iastore, 1) := by decide +kernel
theorem dX14_pactTold_25 : decode cX14_pactTold 25 = .ok (.dup, 1) := by decide +kernel
theorem dX14_pactTold_26 : decode cX14_pactTold 26 = .ok (.iconst 1, 1) := by decide +kernel
theorem dX14_pactTold_27 : decode cX14_pactTold 27 = .ok (.aload_n 0, 1) := by decide +kernel
theorem dX14_pactTold_28 : decode cX14_pactTold 28 = .ok (.getfield 35, 3) := by decide +kernel
theorem dX14_pactTold_31 : decode cX14_pactTold 31 = .ok (.getfield 225, 3) := by decide +kernel
theorem dX14_pactTold_34 : decode cX14_pactTold 34 = .ok (.iload_n 1, 1) := by decide +kernel
theorem dX14_pactTold_35 : decode cX14_pactTold 35 = .ok (.iaload, 1) := by decide +kernel
theorem dX14_pactTold_36 : decode cX14_pactTold 36 = .ok (.iastore, 1) := by decide +kernel
theorem dX14_pactTold_37 : decode cX14_pactTold 37 = .ok (.dup, 1) := by decide +kernel
theorem dX14_pactTold_38 : decode cX14_pactTold 38 = .ok (.iconst 2, 1) := by decide +kernel
theorem dX14_pactTold_39 : decode cX14_pactTold 39 = .ok (.aload_n 0, 1) := by decide +kernel
theorem dX14_pactTold_40 : decode cX14_pactTold 40 = .ok (.getfield 35, 3) := by decide +kernel
theorem dX14_pactTold_43 : decode cX14_pactTold 43 = .ok (.getfield 262, 3) := by decide +kernel
theorem dX14_pactTold_46 : decode cX14_pactTold 46 = .ok (.iload_n 1, 1) := by decide +kernel
theorem dX14_pactTold_47 : decode cX14_pactTold 47 = .ok (.iaload, 1) := by decide +kernel
theorem dX14_pactTold_48 : decode cX14_pactTold 48 = .ok (.iastore, 1) := by decide +kernel
theorem dX14_pactTold_49 : decode cX14_pactTold 49 = .ok (.dup, 1) := by decide +kernel
theorem dX14_pactTold_50 : decode cX14_pactTold 50 = .ok (.iconst 3, 1) := by decide +kernel
theorem dX14_pactTold_51 : decode cX14_pactTold 51 = .ok (.aload_n 0, 1) := by decide +kernel
theorem dX14_pactTold_52 : decode cX14_pactTold 52 = .ok (.getfield 35, 3) := by decide +kernel
theorem dX14_pactTold_55 : decode cX14_pactTold 55 = .ok (.getfield 265, 3) := by decide +kernel
theorem dX14_pactTold_58 : decode cX14_pactTold 58 = .ok (.bipush 8, 2) := by decide +kernel
theorem dX14_pactTold_60 : decode cX14_pactTold 60 = .ok (.iload_n 1, 1) := by decide +kernel
theorem dX14_pactTold_61 : decode cX14_pactTold 61 = .ok (.imul, 1) := by decide +kernel
theorem dX14_pactTold_62 : decode cX14_pactTold 62 = .ok (.iaload, 1) := by decide +kernel
theorem dX14_pactTold_63 : decode cX14_pactTold 63 = .ok (.iastore, 1) := by decide +kernel
theorem dX14_pactTold_64 : decode cX14_pactTold 64 = .ok (.dup, 1) := by decide +kernel
theorem dX14_pactTold_65 : decode cX14_pactTold 65 = .ok (.iconst 4, 1) := by decide +kernel
theorem dX14_pactTold_66 : decode cX14_pactTold 66 = .ok (.aload_n 0, 1) := by decide +kernel
theorem dX14_pactTold_67 : decode cX14_pactTold 67 = .ok (.getfield 47, 3) := by decide +kernel
theorem dX14_pactTold_70 : decode cX14_pactTold 70 = .ok (.getfield 335, 3) := by decide +kernel
theorem dX14_pactTold_73 : decode cX14_pactTold 73 = .ok (.iload_n 1, 1) := by decide +kernel
theorem dX14_pactTold_74 : decode cX14_pactTold 74 = .ok (.iaload, 1) := by decide +kernel
theorem dX14_pactTold_75 : decode cX14_pactTold 75 = .ok (.iastore, 1) := by decide +kernel
theorem dX14_pactTold_76 : decode cX14_pactTold 76 = .ok (.dup, 1) := by decide +kernel
theorem dX14_pactTold_77 : decode cX14_pactTold 77 = .ok (.iconst 5, 1) := by decide +kernel
theorem dX14_pactTold_78 : decode cX14_pactTold 78 = .ok (.aload_n 0, 1) := by decide +kernel
theorem dX14_pactTold_79 : decode cX14_pactTold 79 = .ok (.getfield 47, 3) := by decide +kernel
theorem dX14_pactTold_82 : decode cX14_pactTold 82 = .ok (.getfield 338, 3) := by decide +kernel
theorem dX14_pactTold_85 : decode cX14_pactTold 85 = .ok (.iload_n 1, 1) := by decide +kernel
theorem dX14_pactTold_86 : decode cX14_pactTold 86 = .ok (.iaload, 1) := by decide +kernel
theorem dX14_pactTold_87 : decode cX14_pactTold 87 = .ok (.iastore, 1) := by decide +kernel
theorem dX14_pactTold_88 : decode cX14_pactTold 88 = .ok (.dup, 1) := by decide +kernel
theorem dX14_pactTold_89 : decode cX14_pactTold 89 = .ok (.bipush 6, 2) := by decide +kernel
theorem dX14_pactTold_91 : decode cX14_pactTold 91 = .ok (.aload_n 0, 1) := by decide +kernel
theorem dX14_pactTold_92 : decode cX14_pactTold 92 = .ok (.getfield 47, 3) := by decide +kernel
theorem dX14_pactTold_95 : decode cX14_pactTold 95 = .ok (.getfield 341, 3) := by decide +kernel
theorem dX14_pactTold_98 : decode cX14_pactTold 98 = .ok (.iload_n 1, 1) := by decide +kernel
theorem dX14_pactTold_99 : decode cX14_pactTold 99 = .ok (.iaload, 1) := by decide +kernel
theorem dX14_pactTold_100 : decode cX14_pactTold 100 = .ok (.iastore, 1) := by decide +kernel
theorem dX14_pactTold_101 : decode cX14_pactTold 101 = .ok (.astore_n 3, 1) := by decide +kernel
theorem dX14_pactTold_102 : decode cX14_pactTold 102 = .ok (.aload_n 3, 1) := by decide +kernel
theorem dX14_pactTold_103 : decode cX14_pactTold 103 = .ok (.iload_n 2, 1) := by decide +kernel
theorem dX14_pactTold_104 : decode cX14_pactTold 104 = .ok (.iaload, 1) := by decide +kernel
theorem dX14_pactTold_105 : decode cX14_pactTold 105 = .ok (.ireturn, 1) := by decide +kernel
theorem k_X14_pactTold_f35 : Cond.fieldLink RX14 35 "TideLotsModel" "told" "LTideLotsModel$Told;" ∈ wsX14_pactTold := by decide +kernel
theorem i_X14_pactTold_X14 : ∀ w ∈ u_ws RX14 TX14 15, w ∈ wsX14_pactTold := by decide +kernel
theorem i_X14_pactTold_X13 : ∀ w ∈ u_ws RX13 TX13 25, w ∈ wsX14_pactTold := by decide +kernel
theorem k_X14_pactTold_f47 : Cond.fieldLink RX14 47 "TideLotsModel" "s" "LTideLotsModel$State;" ∈ wsX14_pactTold := by decide +kernel
theorem kn_X14_335 : Cond.fieldLinkNest "TideLotsModel" (335 : Nat) "TideLotsModel$State" "shown" "[I" "TideLotsModel" ∈ gNs := by decide +kernel
theorem i_X14_pactTold_X12 : ∀ w ∈ u_ws RX12 TX12 19, w ∈ wsX14_pactTold := by decide +kernel
theorem kn_X14_338 : Cond.fieldLinkNest "TideLotsModel" (338 : Nat) "TideLotsModel$State" "hidden" "[I" "TideLotsModel" ∈ gNs := by decide +kernel
theorem kn_X14_341 : Cond.fieldLinkNest "TideLotsModel" (341 : Nat) "TideLotsModel$State" "hid" "[I" "TideLotsModel" ∈ gNs := by decide +kernel
theorem k_X14_pactTold_acint : Cond.arrayClass .int ∈ wsX14_pactTold := by decide +kernel
abbrev rX14_pactTold : Room := { frames := 0, cells := 1, slots := 7, locals := 0 }
noncomputable def b_X14_pactTold_24 (M : gMem) (x0 : Nat) (x1 : Int32) (x2 : Int32) (s0 : Option Nat) (s1 : Option Nat) (s2 : Int32) (s3 : Int32) : Option (Int32 × gMem) :=
  dr s1 fun a1 => ck (mT M a1 = 20) <| ck (inb s2 (mL M a1)) <| lw (wI M a1 s2.toNatClampNeg s3) fun M4 => ck (mT M4 x0 = 13) <| dr ((mR M4 x0 11)) fun a7 => ck (mT M4 a7 = 12) <| dr ((mR M4 a7 12)) fun a9 => ck (mT M4 a9 = 20) <| ck (inb x1 (mL M4 a9)) <| dr s0 fun a12 => ck (mT M4 a12 = 20) <| ck (inb (1 : Int32) (mL M4 a12)) <| lw (wI M4 a12 ((1 : Int32)).toNatClampNeg ((mI M4 a9 x1.toNatClampNeg))) fun M15 => dr ((mR M15 x0 11)) fun a21 => ck (mT M15 a21 = 12) <| dr ((mR M15 a21 13)) fun a23 => ck (mT M15 a23 = 20) <| ck (inb x1 (mL M15 a23)) <| ck (inb (2 : Int32) (mL M15 a12)) <| lw (wI M15 a12 ((2 : Int32)).toNatClampNeg ((mI M15 a23 x1.toNatClampNeg))) fun M27 => dr ((mR M27 x0 11)) fun a35 => ck (mT M27 a35 = 12) <| dr ((mR M27 a35 14)) fun a37 => ck (mT M27 a37 = 20) <| ck (inb ((8 : Int32) * x1) (mL M27 a37)) <| ck (inb (3 : Int32) (mL M27 a12)) <| lw (wI M27 a12 ((3 : Int32)).toNatClampNeg ((mI M27 a37 (((8 : Int32) * x1)).toNatClampNeg))) fun M41 => dr ((mR M41 x0 13)) fun a51 => ck (mT M41 a51 = 11) <| dr ((mR M41 a51 11)) fun a53 => ck (mT M41 a53 = 20) <| ck (inb x1 (mL M41 a53)) <| ck (inb (4 : Int32) (mL M41 a12)) <| lw (wI M41 a12 ((4 : Int32)).toNatClampNeg ((mI M41 a53 x1.toNatClampNeg))) fun M57 => dr ((mR M57 x0 13)) fun a69 => ck (mT M57 a69 = 11) <| dr ((mR M57 a69 12)) fun a71 => ck (mT M57 a71 = 20) <| ck (inb x1 (mL M57 a71)) <| ck (inb (5 : Int32) (mL M57 a12)) <| lw (wI M57 a12 ((5 : Int32)).toNatClampNeg ((mI M57 a71 x1.toNatClampNeg))) fun M75 => dr ((mR M75 x0 13)) fun a89 => ck (mT M75 a89 = 11) <| dr ((mR M75 a89 13)) fun a91 => ck (mT M75 a91 = 20) <| ck (inb x1 (mL M75 a91)) <| ck (inb (6 : Int32) (mL M75 a12)) <| lw (wI M75 a12 ((6 : Int32)).toNatClampNeg ((mI M75 a91 x1.toNatClampNeg))) fun M95 => ck (inb x2 (mL M95 a12)) <| some ((mI M95 a12 x2.toNatClampNeg), M95)
noncomputable def b_X14_pactTold_0 (M : gMem) (x0 : Nat) (x1 : Int32) (x2 : Int32) : Option (Int32 × gMem) :=
  lw (nW M 20 ((7 : Int32)).toNatClampNeg) fun M112 => ck (mT M112 x0 = 13) <| dr ((mR M112 x0 11)) fun a114 => ck (mT M112 a114 = 12) <| dr ((mR M112 a114 12)) fun a116 => ck (mT M112 a116 = 20) <| ck (inb x1 (mL M112 a116)) <| (if (mI M112 a116 x1.toNatClampNeg) = (-1 : Int32) then b_X14_pactTold_24 M112 x0 x1 x2 ((some (mN M))) ((some (mN M))) ((0 : Int32)) ((0 : Int32)) else b_X14_pactTold_24 M112 x0 x1 x2 ((some (mN M))) ((some (mN M))) ((0 : Int32)) ((1 : Int32)))
noncomputable def f_X14_pactTold (M : gMem) (x0 : Nat) (x1 : Int32) (x2 : Int32) : Option (Int32 × gMem) :=
  b_X14_pactTold_0 M x0 x1 x2
set_option maxHeartbeats 4000000 in
set_option maxRecDepth 100000 in
theorem t_X14_pactTold_24 (X : gX p s m args meth c D cy B (gSt Z B H0) RX14 cX14_pactTold wsX14_pactTold 4) (hr : meth.sig.returnType = (some .int)) {Q : State → Prop} : ∀ (M : gMem) (x0 : Nat) (x1 : Int32) (x2 : Int32) (s0 : Option Nat) (s1 : Option Nat) (s2 : Int32) (s3 : Int32) (z : Int32 × gMem), b_X14_pactTold_24 M x0 x1 x2 s0 s1 s2 s3 = some z → (fun (r : Int32 × gMem) => Q = gMQ below D cy B H0 args s 1 7 (some (vI r.1)) r.2) z → gGo p l e rX14_pactTold s m args below meth c D cy B H0 4 1 7 Q 24 [(0, vR (some x0)), (1, vI x1), (2, vI x2)] [vI s3, vI s2, vR s1, vR s0] M := by
  intro M x0 x1 x2 s0 s1 s2 s3 z hf hK
  unfold b_X14_pactTold_24 at hf
  obtain ⟨a1, ha1, hf⟩ := dr_e hf
  obtain ⟨hT2, hf⟩ := ck_e hf
  obtain ⟨hg3, hf⟩ := ck_e hf
  refine g_iast X dX14_pactTold_24 ha1 hT2 hg3 ?_
  obtain ⟨M4, hM4, hf⟩ := lw_e hf
  rw [← hM4]
  have hT5 : mT M4 a1 = 20 := by rw [hM4]; exact hT2
  refine g_dup X dX14_pactTold_25 rfl ?_
  refine g_iconst (v := (1 : Int32)) X dX14_pactTold_26 (by decide) ?_
  refine g_aload_n X dX14_pactTold_27 rfl rfl ?_
  obtain ⟨hT6, hf⟩ := ck_e hf
  refine g_get (ci := 12) (v := vR (mR M4 x0 11)) 11 X cdX14 i_X14_pactTold_X14 (by decide) k_X14_pactTold_f35 rfl dX14_pactTold_28 rfl hT6 rfl ?_
  obtain ⟨a7, ha7, hf⟩ := dr_e hf
  obtain ⟨hT8, hf⟩ := ck_e hf
  refine g_getN (ci := 11) (w := vR (mR M4 a7 12)) 12 X cdX13 i_X14_pactTold_X13 (by decide) (gNw X _ kn_X14_225) rfl dX14_pactTold_31 ha7 hT8 rfl ?_
  refine g_iload_n X dX14_pactTold_34 rfl rfl ?_
  obtain ⟨a9, ha9, hf⟩ := dr_e hf
  obtain ⟨hT10, hf⟩ := ck_e hf
  obtain ⟨hg11, hf⟩ := ck_e hf
  refine g_iald X dX14_pactTold_35 ha9 hT10 hg11 ?_
  obtain ⟨a12, ha12, hf⟩ := dr_e hf
  obtain ⟨hT13, hf⟩ := ck_e hf
  obtain ⟨hg14, hf⟩ := ck_e hf
  refine g_iast X dX14_pactTold_36 ha12 hT13 hg14 ?_
  obtain ⟨M15, hM15, hf⟩ := lw_e hf
  rw [← hM15]
  have hT16 : mT M15 a1 = 20 := by rw [hM15]; exact hT5
  have hT17 : mT M15 x0 = 13 := by rw [hM15]; exact hT6
  have hT18 : mT M15 a7 = 12 := by rw [hM15]; exact hT8
  have hT19 : mT M15 a9 = 20 := by rw [hM15]; exact hT10
  have hT20 : mT M15 a12 = 20 := by rw [hM15]; exact hT13
  refine g_dup X dX14_pactTold_37 rfl ?_
  refine g_iconst (v := (2 : Int32)) X dX14_pactTold_38 (by decide) ?_
  refine g_aload_n X dX14_pactTold_39 rfl rfl ?_
  refine g_get (ci := 12) (v := vR (mR M15 x0 11)) 11 X cdX14 i_X14_pactTold_X14 (by decide) k_X14_pactTold_f35 rfl dX14_pactTold_40 rfl hT17 rfl ?_
  obtain ⟨a21, ha21, hf⟩ := dr_e hf
  obtain ⟨hT22, hf⟩ := ck_e hf
  refine g_getN (ci := 11) (w := vR (mR M15 a21 13)) 13 X cdX13 i_X14_pactTold_X13 (by decide) (gNw X _ kn_X14_262) rfl dX14_pactTold_43 ha21 hT22 rfl ?_
  refine g_iload_n X dX14_pactTold_46 rfl rfl ?_
  obtain ⟨a23, ha23, hf⟩ := dr_e hf
  obtain ⟨hT24, hf⟩ := ck_e hf
  obtain ⟨hg25, hf⟩ := ck_e hf
  refine g_iald X dX14_pactTold_47 ha23 hT24 hg25 ?_
  obtain ⟨hg26, hf⟩ := ck_e hf
  refine g_iast X dX14_pactTold_48 ha12 hT20 hg26 ?_
  obtain ⟨M27, hM27, hf⟩ := lw_e hf
  rw [← hM27]
  have hT28 : mT M27 a1 = 20 := by rw [hM27]; exact hT16
  have hT29 : mT M27 x0 = 13 := by rw [hM27]; exact hT17
  have hT30 : mT M27 a7 = 12 := by rw [hM27]; exact hT18
  have hT31 : mT M27 a9 = 20 := by rw [hM27]; exact hT19
  have hT32 : mT M27 a12 = 20 := by rw [hM27]; exact hT20
  have hT33 : mT M27 a21 = 12 := by rw [hM27]; exact hT22
  have hT34 : mT M27 a23 = 20 := by rw [hM27]; exact hT24
  refine g_dup X dX14_pactTold_49 rfl ?_
  refine g_iconst (v := (3 : Int32)) X dX14_pactTold_50 (by decide) ?_
  refine g_aload_n X dX14_pactTold_51 rfl rfl ?_
  refine g_get (ci := 12) (v := vR (mR M27 x0 11)) 11 X cdX14 i_X14_pactTold_X14 (by decide) k_X14_pactTold_f35 rfl dX14_pactTold_52 rfl hT29 rfl ?_
  obtain ⟨a35, ha35, hf⟩ := dr_e hf
  obtain ⟨hT36, hf⟩ := ck_e hf
  refine g_getN (ci := 11) (w := vR (mR M27 a35 14)) 14 X cdX13 i_X14_pactTold_X13 (by decide) (gNw X _ kn_X14_265) rfl dX14_pactTold_55 ha35 hT36 rfl ?_
  refine g_bipush (v := (8 : Int32)) X dX14_pactTold_58 (by decide) ?_
  refine g_iload_n X dX14_pactTold_60 rfl rfl ?_
  refine g_imul X dX14_pactTold_61 ?_
  obtain ⟨a37, ha37, hf⟩ := dr_e hf
  obtain ⟨hT38, hf⟩ := ck_e hf
  obtain ⟨hg39, hf⟩ := ck_e hf
  refine g_iald X dX14_pactTold_62 ha37 hT38 hg39 ?_
  obtain ⟨hg40, hf⟩ := ck_e hf
  refine g_iast X dX14_pactTold_63 ha12 hT32 hg40 ?_
  obtain ⟨M41, hM41, hf⟩ := lw_e hf
  rw [← hM41]
  have hT42 : mT M41 a1 = 20 := by rw [hM41]; exact hT28
  have hT43 : mT M41 x0 = 13 := by rw [hM41]; exact hT29
  have hT44 : mT M41 a7 = 12 := by rw [hM41]; exact hT30
  have hT45 : mT M41 a9 = 20 := by rw [hM41]; exact hT31
  have hT46 : mT M41 a12 = 20 := by rw [hM41]; exact hT32
  have hT47 : mT M41 a21 = 12 := by rw [hM41]; exact hT33
  have hT48 : mT M41 a23 = 20 := by rw [hM41]; exact hT34
  have hT49 : mT M41 a35 = 12 := by rw [hM41]; exact hT36
  have hT50 : mT M41 a37 = 20 := by rw [hM41]; exact hT38
  refine g_dup X dX14_pactTold_64 rfl ?_
  refine g_iconst (v := (4 : Int32)) X dX14_pactTold_65 (by decide) ?_
  refine g_aload_n X dX14_pactTold_66 rfl rfl ?_
  refine g_get (ci := 12) (v := vR (mR M41 x0 13)) 13 X cdX14 i_X14_pactTold_X14 (by decide) k_X14_pactTold_f47 rfl dX14_pactTold_67 rfl hT43 rfl ?_
  obtain ⟨a51, ha51, hf⟩ := dr_e hf
  obtain ⟨hT52, hf⟩ := ck_e hf
  refine g_getN (ci := 10) (w := vR (mR M41 a51 11)) 11 X cdX12 i_X14_pactTold_X12 (by decide) (gNw X _ kn_X14_335) rfl dX14_pactTold_70 ha51 hT52 rfl ?_
  refine g_iload_n X dX14_pactTold_73 rfl rfl ?_
  obtain ⟨a53, ha53, hf⟩ := dr_e hf
  obtain ⟨hT54, hf⟩ := ck_e hf
  obtain ⟨hg55, hf⟩ := ck_e hf
  refine g_iald X dX14_pactTold_74 ha53 hT54 hg55 ?_
  obtain ⟨hg56, hf⟩ := ck_e hf
  refine g_iast X dX14_pactTold_75 ha12 hT46 hg56 ?_
  obtain ⟨M57, hM57, hf⟩ := lw_e hf
  rw [← hM57]
  have hT58 : mT M57 a1 = 20 := by rw [hM57]; exact hT42
  have hT59 : mT M57 x0 = 13 := by rw [hM57]; exact hT43
  have hT60 : mT M57 a7 = 12 := by rw [hM57]; exact hT44
  have hT61 : mT M57 a9 = 20 := by rw [hM57]; exact hT45
  have hT62 : mT M57 a12 = 20 := by rw [hM57]; exact hT46
  have hT63 : mT M57 a21 = 12 := by rw [hM57]; exact hT47
  have hT64 : mT M57 a23 = 20 := by rw [hM57]; exact hT48
  have hT65 : mT M57 a35 = 12 := by rw [hM57]; exact hT49
  have hT66 : mT M57 a37 = 20 := by rw [hM57]; exact hT50
  have hT67 : mT M57 a51 = 11 := by rw [hM57]; exact hT52
  have hT68 : mT M57 a53 = 20 := by rw [hM57]; exact hT54
  refine g_dup X dX14_pactTold_76 rfl ?_
  refine g_iconst (v := (5 : Int32)) X dX14_pactTold_77 (by decide) ?_
  refine g_aload_n X dX14_pactTold_78 rfl rfl ?_
  refine g_get (ci := 12) (v := vR (mR M57 x0 13)) 13 X cdX14 i_X14_pactTold_X14 (by decide) k_X14_pactTold_f47 rfl dX14_pactTold_79 rfl hT59 rfl ?_
  obtain ⟨a69, ha69, hf⟩ := dr_e hf
  obtain ⟨hT70, hf⟩ := ck_e hf
  refine g_getN (ci := 10) (w := vR (mR M57 a69 12)) 12 X cdX12 i_X14_pactTold_X12 (by decide) (gNw X _ kn_X14_338) rfl dX14_pactTold_82 ha69 hT70 rfl ?_
  refine g_iload_n X dX14_pactTold_85 rfl rfl ?_
  obtain ⟨a71, ha71, hf⟩ := dr_e hf
  obtain ⟨hT72, hf⟩ := ck_e hf
  obtain ⟨hg73, hf⟩ := ck_e hf
  refine g_iald X dX14_pactTold_86 ha71 hT72 hg73 ?_
  obtain ⟨hg74, hf⟩ := ck_e hf
  refine g_iast X dX14_pactTold_87 ha12 hT62 hg74 ?_
  obtain ⟨M75, hM75, hf⟩ := lw_e hf
  rw [← hM75]
  have hT76 : mT M75 a1 = 20 := by rw [hM75]; exact hT58
  have hT77 : mT M75 x0 = 13 := by rw [hM75]; exact hT59
  have hT78 : mT M75 a7 = 12 := by rw [hM75]; exact hT60
  have hT79 : mT M75 a9 = 20 := by rw [hM75]; exact hT61
  have hT80 : mT M75 a12 = 20 := by rw [hM75]; exact hT62
  have hT81 : mT M75 a21 = 12 := by rw [hM75]; exact hT63
  have hT82 : mT M75 a23 = 20 := by rw [hM75]; exact hT64
  have hT83 : mT M75 a35 = 12 := by rw [hM75]; exact hT65
  have hT84 : mT M75 a37 = 20 := by rw [hM75]; exact hT66
  have hT85 : mT M75 a51 = 11 := by rw [hM75]; exact hT67
  have hT86 : mT M75 a53 = 20 := by rw [hM75]; exact hT68
  have hT87 : mT M75 a69 = 11 := by rw [hM75]; exact hT70
  have hT88 : mT M75 a71 = 20 := by rw [hM75]; exact hT72
  refine g_dup X dX14_pactTold_88 rfl ?_
  refine g_bipush (v := (6 : Int32)) X dX14_pactTold_89 (by decide) ?_
  refine g_aload_n X dX14_pactTold_91 rfl rfl ?_
  refine g_get (ci := 12) (v := vR (mR M75 x0 13)) 13 X cdX14 i_X14_pactTold_X14 (by decide) k_X14_pactTold_f47 rfl dX14_pactTold_92 rfl hT77 rfl ?_
  obtain ⟨a89, ha89, hf⟩ := dr_e hf
  obtain ⟨hT90, hf⟩ := ck_e hf
  refine g_getN (ci := 10) (w := vR (mR M75 a89 13)) 13 X cdX12 i_X14_pactTold_X12 (by decide) (gNw X _ kn_X14_341) rfl dX14_pactTold_95 ha89 hT90 rfl ?_
  refine g_iload_n X dX14_pactTold_98 rfl rfl ?_
  obtain ⟨a91, ha91, hf⟩ := dr_e hf
  obtain ⟨hT92, hf⟩ := ck_e hf
  obtain ⟨hg93, hf⟩ := ck_e hf
  refine g_iald X dX14_pactTold_99 ha91 hT92 hg93 ?_
  obtain ⟨hg94, hf⟩ := ck_e hf
  refine g_iast X dX14_pactTold_100 ha12 hT80 hg94 ?_
  obtain ⟨M95, hM95, hf⟩ := lw_e hf
  rw [← hM95]
  have hT96 : mT M95 a1 = 20 := by rw [hM95]; exact hT76
  have hT97 : mT M95 x0 = 13 := by rw [hM95]; exact hT77
  have hT98 : mT M95 a7 = 12 := by rw [hM95]; exact hT78
  have hT99 : mT M95 a9 = 20 := by rw [hM95]; exact hT79
  have hT100 : mT M95 a12 = 20 := by rw [hM95]; exact hT80
  have hT101 : mT M95 a21 = 12 := by rw [hM95]; exact hT81
  have hT102 : mT M95 a23 = 20 := by rw [hM95]; exact hT82
  have hT103 : mT M95 a35 = 12 := by rw [hM95]; exact hT83
  have hT104 : mT M95 a37 = 20 := by rw [hM95]; exact hT84
  have hT105 : mT M95 a51 = 11 := by rw [hM95]; exact hT85
  have hT106 : mT M95 a53 = 20 := by rw [hM95]; exact hT86
  have hT107 : mT M95 a69 = 11 := by rw [hM95]; exact hT87
  have hT108 : mT M95 a71 = 20 := by rw [hM95]; exact hT88
  have hT109 : mT M95 a89 = 11 := by rw [hM95]; exact hT90
  have hT110 : mT M95 a91 = 20 := by rw [hM95]; exact hT92
  refine g_astore_n (lv' := [(3, vR s0), (0, vR (some x0)), (1, vI x1), (2, vI x2)]) X dX14_pactTold_101 rfl (by decide) rfl ?_
  refine g_aload_n X dX14_pactTold_102 rfl rfl ?_
  refine g_iload_n X dX14_pactTold_103 rfl rfl ?_
  obtain ⟨hg111, hf⟩ := ck_e hf
  refine g_iald X dX14_pactTold_104 ha12 hT100 hg111 ?_
  cases hf
  refine g_eqQ hK ?_
  exact g_iret X hr dX14_pactTold_105
set_option maxHeartbeats 4000000 in
set_option maxRecDepth 100000 in
theorem t_X14_pactTold_0 (X : gX p s m args meth c D cy B (gSt Z B H0) RX14 cX14_pactTold wsX14_pactTold 4) (hr : meth.sig.returnType = (some .int)) {Q : State → Prop} : ∀ (M : gMem) (x0 : Nat) (x1 : Int32) (x2 : Int32) (z : Int32 × gMem), b_X14_pactTold_0 M x0 x1 x2 = some z → (fun (r : Int32 × gMem) => Q = gMQ below D cy B H0 args s 1 7 (some (vI r.1)) r.2) z → gGo p l e rX14_pactTold s m args below meth c D cy B H0 4 0 0 Q 0 [(0, vR (some x0)), (1, vI x1), (2, vI x2)] [] M := by
  intro M x0 x1 x2 z hf hK
  unfold b_X14_pactTold_0 at hf
  refine g_bipush (v := (7 : Int32)) X dX14_pactTold_0 (by decide) ?_
  refine g_newa (at' := .int) (t0 := 0) X k_X14_pactTold_acint (by exact Or.inl ⟨rfl, rfl⟩) (by decide) (by decide) ⟨by decide, by decide⟩ dX14_pactTold_2 ?_
  obtain ⟨M112, hM112, hf⟩ := lw_e hf
  rw [← hM112]
  refine g_dup X dX14_pactTold_4 rfl ?_
  refine g_iconst (v := (0 : Int32)) X dX14_pactTold_5 (by decide) ?_
  refine g_aload_n X dX14_pactTold_6 rfl rfl ?_
  obtain ⟨hT113, hf⟩ := ck_e hf
  refine g_get (ci := 12) (v := vR (mR M112 x0 11)) 11 X cdX14 i_X14_pactTold_X14 (by decide) k_X14_pactTold_f35 rfl dX14_pactTold_7 rfl hT113 rfl ?_
  obtain ⟨a114, ha114, hf⟩ := dr_e hf
  obtain ⟨hT115, hf⟩ := ck_e hf
  refine g_getN (ci := 11) (w := vR (mR M112 a114 12)) 12 X cdX13 i_X14_pactTold_X13 (by decide) (gNw X _ kn_X14_225) rfl dX14_pactTold_10 ha114 hT115 rfl ?_
  refine g_iload_n X dX14_pactTold_13 rfl rfl ?_
  obtain ⟨a116, ha116, hf⟩ := dr_e hf
  obtain ⟨hT117, hf⟩ := ck_e hf
  obtain ⟨hg118, hf⟩ := ck_e hf
  refine g_iald X dX14_pactTold_14 ha116 hT117 hg118 ?_
  refine g_iconst (v := (-1 : Int32)) X dX14_pactTold_15 (by decide) ?_
  refine g_icmp_ne (tgt := 23) X dX14_pactTold_16 (by decide) (fun hc => ?_) (fun hc => ?_)
  · have hf := ife_f hc hf
    refine g_iconst (v := (1 : Int32)) X dX14_pactTold_23 (by decide) ?_
    refine g_sub (lvsub_of _ _ [0, 1, 2] rfl) ?_
    exact t_X14_pactTold_24 X hr _ _ _ _ _ _ _ _ _ hf hK
  · have hf := ife_t hc hf
    refine g_iconst (v := (0 : Int32)) X dX14_pactTold_19 (by decide) ?_
    refine g_goto (tgt := 24) X dX14_pactTold_20 (by decide) ?_
    refine g_sub (lvsub_of _ _ [0, 1, 2] rfl) ?_
    exact t_X14_pactTold_24 X hr _ _ _ _ _ _ _ _ _ hf hK
set_option maxHeartbeats 4000000 in
set_option maxRecDepth 100000 in
theorem m_X14_pactTold (l : Launch) {D : va_G} {cy : Nat → ClassId} {B : Nat} {H0 : Heap} {Z : Nat → Nat} {M M1 : gMem} {x0 : Nat} {x1 : Int32} {x2 : Int32} {r : Int32} (hf : f_X14_pactTold M x0 x1 x2 = some (r, M1)) : Met l yX14_pactTold wsX14_pactTold rX14_pactTold (va_Pc (Value.ref x0 :: List.map gv [vI x1, vI x2]) (gPre D cy B H0 (gSt Z B H0) M)) (gQ D cy B H0 (some (vI r)) M1) 1 7 (gA B) := by
  refine Met.ofW (cc := cX14_pactTold) (maxL := 4) (ret := (some .int)) (by decide) rfl ?_
  intro p e s m args below meth c s₁ Bd hml hv
  obtain ⟨rfl, hW, hKK, hFs⟩ := hv
  have X : gX p s m _ meth c D cy B (gSt Z B H0) RX14 cX14_pactTold wsX14_pactTold 4 := ⟨Bd.exec, Bd.bytes, atoms_spec (ws := wsX14_pactTold) Bd.pre, findClass_of_methodNamed Bd.named, hml, hKK, by rw [hW.1]; exact hW.2.1, Bd.notSynchronized, hFs⟩
  have hr := Bd.returns
  have hl := lv_entry ([.ref x0, .int x1, .int x2]) (n := 4) (Nat.le_of_ble_eq_true rfl)
  show W p l e rX14_pactTold s m _ below meth c s.heap [] 0 0 _ (entryFrame m ([.ref x0, .int x1, .int x2] : List Value).toArray 4)
  rw [lg_entry_eq]
  generalize (lg_sl ([.ref x0, .int x1, .int x2]) ++ List.replicate (4 - (lg_sl ([.ref x0, .int x1, .int x2])).length) Slot.unset).toArray = ls at hl ⊢
  have hl : lv_has ls 4 (List.map gq [(0, vR (some x0)), (1, vI x1), (2, vI x2)]) := hl
  exact t_X14_pactTold_0 X hr _ _ _ _ _ hf rfl s.heap [] ls hW va_S.rf (lv_has_sub hl (lvsub_of _ _ [0, 1, 2] rfl))
/-! ## TideLotsModel.pact(II)I -/
theorem dX14_pact_0 : decode cX14_pact 0 = .ok (.aload_n 0, 1) := by decide +kernel
theorem dX14_pact_1 : decode cX14_pact 1 = .ok (.iconst 0, 1) := by decide +kernel
theorem dX14_pact_2 : decode cX14_pact 2 = .ok (.putfield 57, 3) := by decide +kernel
theorem dX14_pact_5 : decode cX14_pact 5 = .ok (.iload_n 1, 1) := by decide +kernel
theorem dX14_pact_6 : decode cX14_pact 6 = .ok (.iconst 0, 1) := by decide +kernel
theorem dX14_pact_7 : decode cX14_pact 7 = .ok (.aload_n 0, 1) := by decide +kernel
theorem dX14_pact_8 : decode cX14_pact 8 = .ok (.getfield 35, 3) := by decide +kernel
theorem dX14_pact_11 : decode cX14_pact 11 = .ok (.getfield 222, 3) := by decide +kernel
theorem dX14_pact_14 : decode cX14_pact 14 = .ok (.iconst 1, 1) := by decide +kernel
theorem dX14_pact_15 : decode cX14_pact 15 = .ok (.isub, 1) := by decide +kernel
theorem dX14_pact_16 : decode cX14_pact 16 = .ok (.invokestatic 63, 3) := by decide +kernel
theorem dX14_pact_19 : decode cX14_pact 19 = .ok (.ifCond .eq 22, 3) := by decide +kernel
theorem dX14_pact_22 : decode cX14_pact 22 = .ok (.iload_n 2, 1) := by decide +kernel
theorem dX14_pact_23 : decode cX14_pact 23 = .ok (.iconst 0, 1) := by decide +kernel
theorem dX14_pact_24 : decode cX14_pact 24 = .ok (.bipush 6, 2) := by decide +kernel
theorem dX14_pact_26 : decode cX14_pact 26 = .ok (.invokestatic 63, 3) := by decide +kernel
theorem dX14_pact_29 : decode cX14_pact 29 = .ok (.ifCond .eq 12, 3) := by decide +kernel
theorem dX14_pact_32 : decode cX14_pact 32 = .ok (.aload_n 0, 1) := by decide +kernel
theorem dX14_pact_33 : decode cX14_pact 33 = .ok (.iload_n 1, 1) := by decide +kernel
theorem dX14_pact_34 : decode cX14_pact 34 = .ok (.iload_n 2, 1) := by decide +kernel
theorem dX14_pact_35 : decode cX14_pact 35 = .ok (.invokevirtual 344, 3) := by decide +kernel
theorem dX14_pact_38 : decode cX14_pact 38 = .ok (.goto 8, 3) := by decide +kernel
theorem dX14_pact_41 : decode cX14_pact 41 = .ok (.aload_n 0, 1) := by decide +kernel
theorem dX14_pact_42 : decode cX14_pact 42 = .ok (.iconst 1, 1) := by decide +kernel
theorem dX14_pact_43 : decode cX14_pact 43 = .ok (.invokevirtual 276, 3) := by decide +kernel
theorem dX14_pact_46 : decode cX14_pact 46 = .ok (.ireturn, 1) := by decide +kernel
set_option maxRecDepth 20000 in
theorem ggX14_pact_X14_no : GoodIn wsX14_pact wsX14_no := goodIn_r _ [16, 1, 17, 18, 19, 20, 21, 22, 23, 24, 25, 26, 27, 28, 29, 30, 31] (by decide +kernel) (by decide +kernel)
set_option maxRecDepth 20000 in
theorem gX14_pact_X14_no : GoodIn wsX14_pact (wsV RX14 276 RX14 yX14_no wsX14_no) := goodIn_app (goodIn_of _ (by decide +kernel)) ggX14_pact_X14_no
set_option maxRecDepth 20000 in
theorem ggX14_pact_X14_isIn : GoodIn wsX14_pact wsX14_isIn := goodIn_r _ [6] (by decide +kernel) (by decide +kernel)
set_option maxRecDepth 20000 in
theorem gX14_pact_X14_isIn : GoodIn wsX14_pact (va_wsS RX14 63 yX14_isIn wsX14_isIn) := goodIn_app (goodIn_of _ (by decide +kernel)) ggX14_pact_X14_isIn
set_option maxRecDepth 20000 in
theorem ggX14_pact_X14_pactTold : GoodIn wsX14_pact wsX14_pactTold := goodIn_r _ [10, 11, 2, 12, 17, 18, 19, 20, 21, 22, 23, 24, 25, 26, 27, 28, 29, 30, 31, 32, 33, 34, 35, 36, 37, 38, 39, 40, 41, 42, 43, 44, 45, 46, 47, 48, 49, 50, 51, 52, 53, 54, 55, 56, 57, 58, 59, 60, 61, 62, 63, 64, 65, 66, 67, 68, 69, 70, 71, 72, 73, 74, 75] (by decide +kernel) (by decide +kernel)
set_option maxRecDepth 20000 in
theorem gX14_pact_X14_pactTold : GoodIn wsX14_pact (wsV RX14 344 RX14 yX14_pactTold wsX14_pactTold) := goodIn_app (goodIn_of _ (by decide +kernel)) ggX14_pact_X14_pactTold
theorem k_X14_pact_f57 : Cond.fieldLink RX14 57 "TideLotsModel" "thrown" "I" ∈ wsX14_pact := by decide +kernel
theorem i_X14_pact_X14 : ∀ w ∈ u_ws RX14 TX14 15, w ∈ wsX14_pact := by decide +kernel
theorem k_X14_pact_f35 : Cond.fieldLink RX14 35 "TideLotsModel" "told" "LTideLotsModel$Told;" ∈ wsX14_pact := by decide +kernel
theorem i_X14_pact_X13 : ∀ w ∈ u_ws RX13 TX13 25, w ∈ wsX14_pact := by decide +kernel
abbrev rX14_pact : Room := { frames := 1, cells := 1, slots := 7, locals := 23 }
noncomputable def b_X14_pact_46 (M : gMem) (s0 : Int32) : Option (Int32 × gMem) :=
  some (s0, M)
noncomputable def b_X14_pact_41 (M : gMem) (x0 : Nat) : Option (Int32 × gMem) :=
  ck (mT M x0 = 13) <| bd (f_X14_no M x0 ((1 : Int32))) fun r1 M1 => b_X14_pact_46 M1 r1
noncomputable def b_X14_pact_0 (M : gMem) (x0 : Nat) (x1 : Int32) (x2 : Int32) : Option (Int32 × gMem) :=
  ck (mT M x0 = 13) <| lw (wI M x0 0 ((0 : Int32))) fun M4 => dr ((mR M4 x0 11)) fun a6 => ck (mT M4 a6 = 12) <| bd (f_X14_isIn M4 x1 ((0 : Int32)) (((mI M4 a6 11) - (1 : Int32)))) fun r8 M8 => (if r8 = 0 then b_X14_pact_41 M8 x0 else bd (f_X14_isIn M8 x2 ((0 : Int32)) ((6 : Int32))) fun r9 M9 => (if r9 = 0 then b_X14_pact_41 M9 x0 else ck (mT M9 x0 = 13) <| bd (f_X14_pactTold M9 x0 x1 x2) fun r10 M10 => b_X14_pact_46 M10 r10))
noncomputable def f_X14_pact (M : gMem) (x0 : Nat) (x1 : Int32) (x2 : Int32) : Option (Int32 × gMem) :=
  b_X14_pact_0 M x0 x1 x2
set_option maxHeartbeats 4000000 in
set_option maxRecDepth 100000 in
theorem t_X14_pact_46 (X : gX p s m args meth c D cy B (gSt Z B H0) RX14 cX14_pact wsX14_pact 3) (hr : meth.sig.returnType = (some .int)) {Q : State → Prop} : ∀ (M : gMem) (s0 : Int32) (z : Int32 × gMem), b_X14_pact_46 M s0 = some z → (fun (r : Int32 × gMem) => Q = gMQ below D cy B H0 args s 1 7 (some (vI r.1)) r.2) z → gGo p l e rX14_pact s m args below meth c D cy B H0 3 1 7 Q 46 [] [vI s0] M := by
  intro M s0 z hf hK
  unfold b_X14_pact_46 at hf
  cases hf
  refine g_eqQ hK ?_
  exact g_iret X hr dX14_pact_46
set_option maxHeartbeats 4000000 in
set_option maxRecDepth 100000 in
theorem t_X14_pact_41 (X : gX p s m args meth c D cy B (gSt Z B H0) RX14 cX14_pact wsX14_pact 3) (hr : meth.sig.returnType = (some .int)) {Q : State → Prop} : ∀ (M : gMem) (x0 : Nat) (z : Int32 × gMem), b_X14_pact_41 M x0 = some z → (fun (r : Int32 × gMem) => Q = gMQ below D cy B H0 args s 1 7 (some (vI r.1)) r.2) z → gGo p l e rX14_pact s m args below meth c D cy B H0 3 0 0 Q 41 [(0, vR (some x0))] [] M := by
  intro M x0 z hf hK
  unfold b_X14_pact_41 at hf
  refine g_aload_n X dX14_pact_41 rfl rfl ?_
  refine g_iconst (v := (1 : Int32)) X dX14_pact_42 (by decide) ?_
  obtain ⟨hT2, hf⟩ := ck_e hf
  obtain ⟨r1, M1, hq1, hf⟩ := bd_e hf
  refine g_callV (ci := 12) (b := x0) (As := [vI (1 : Int32)]) (st := []) (v := some (vI r1)) (M1 := M1) X (m_X14_no l hq1) (cwV 1 X.2.2.1 gX14_pact_X14_no rfl rfl rfl (by decide +kernel) ⟨Nat.le_of_ble_eq_true rfl, Nat.le_of_ble_eq_true rfl⟩) rfl rfl rfl hT2 (by decide) rfl (Nat.le_of_ble_eq_true rfl) dX14_pact_43 ⟨by decide, by decide⟩ ?_
  refine g_sub (lvsub_of _ _ [] rfl) ?_
  refine g_wide (k' := 1) (n' := 7) (by decide) (by decide) ?_
  exact t_X14_pact_46 X hr _ _ _ hf hK
set_option maxHeartbeats 4000000 in
set_option maxRecDepth 100000 in
theorem t_X14_pact_0 (X : gX p s m args meth c D cy B (gSt Z B H0) RX14 cX14_pact wsX14_pact 3) (hr : meth.sig.returnType = (some .int)) {Q : State → Prop} : ∀ (M : gMem) (x0 : Nat) (x1 : Int32) (x2 : Int32) (z : Int32 × gMem), b_X14_pact_0 M x0 x1 x2 = some z → (fun (r : Int32 × gMem) => Q = gMQ below D cy B H0 args s 1 7 (some (vI r.1)) r.2) z → gGo p l e rX14_pact s m args below meth c D cy B H0 3 0 0 Q 0 [(0, vR (some x0)), (1, vI x1), (2, vI x2)] [] M := by
  intro M x0 x1 x2 z hf hK
  unfold b_X14_pact_0 at hf
  refine g_aload_n X dX14_pact_0 rfl rfl ?_
  refine g_iconst (v := (0 : Int32)) X dX14_pact_1 (by decide) ?_
  obtain ⟨hT3, hf⟩ := ck_e hf
  refine g_putI (ci := 12) 0 X cdX14 i_X14_pact_X14 (by decide) k_X14_pact_f57 rfl dX14_pact_2 rfl hT3 (Or.inl rfl) rfl rfl rfl ?_
  obtain ⟨M4, hM4, hf⟩ := lw_e hf
  rw [← hM4]
  have hT5 : mT M4 x0 = 13 := by rw [hM4]; exact hT3
  refine g_iload_n X dX14_pact_5 rfl rfl ?_
  refine g_iconst (v := (0 : Int32)) X dX14_pact_6 (by decide) ?_
  refine g_aload_n X dX14_pact_7 rfl rfl ?_
  refine g_get (ci := 12) (v := vR (mR M4 x0 11)) 11 X cdX14 i_X14_pact_X14 (by decide) k_X14_pact_f35 rfl dX14_pact_8 rfl hT5 rfl ?_
  obtain ⟨a6, ha6, hf⟩ := dr_e hf
  obtain ⟨hT7, hf⟩ := ck_e hf
  refine g_getN (ci := 11) (w := vI (mI M4 a6 11)) 11 X cdX13 i_X14_pact_X13 (by decide) (gNw X _ kn_X14_222) rfl dX14_pact_11 ha6 hT7 rfl ?_
  refine g_iconst (v := (1 : Int32)) X dX14_pact_14 (by decide) ?_
  refine g_isub X dX14_pact_15 ?_
  obtain ⟨r8, M8, hq8, hf⟩ := bd_e hf
  refine g_callS (As := [vI x1, vI (0 : Int32), vI ((mI M4 a6 11) - (1 : Int32))]) (st := []) (v := some (vI r8)) (M1 := M8) X (m_X14_isIn l hq8) (va_cwS 3 X.2.2.1 gX14_pact_X14_isIn rfl rfl rfl (by decide +kernel) ⟨Nat.le_of_ble_eq_true rfl, Nat.le_of_ble_eq_true rfl⟩) rfl rfl (Nat.le_of_ble_eq_true rfl) dX14_pact_16 ⟨by decide, by decide⟩ ?_
  refine g_if_eq (tgt := 41) X dX14_pact_19 (by decide) (fun hc => ?_) (fun hc => ?_)
  · have hf := ife_t hc hf
    refine g_sub (lvsub_of _ _ [0] rfl) ?_
    exact t_X14_pact_41 X hr _ _ _ hf hK
  · have hf := ife_f hc hf
    refine g_iload_n X dX14_pact_22 rfl rfl ?_
    refine g_iconst (v := (0 : Int32)) X dX14_pact_23 (by decide) ?_
    refine g_bipush (v := (6 : Int32)) X dX14_pact_24 (by decide) ?_
    obtain ⟨r9, M9, hq9, hf⟩ := bd_e hf
    refine g_callS (As := [vI x2, vI (0 : Int32), vI (6 : Int32)]) (st := []) (v := some (vI r9)) (M1 := M9) X (m_X14_isIn l hq9) (va_cwS 3 X.2.2.1 gX14_pact_X14_isIn rfl rfl rfl (by decide +kernel) ⟨Nat.le_of_ble_eq_true rfl, Nat.le_of_ble_eq_true rfl⟩) rfl rfl (Nat.le_of_ble_eq_true rfl) dX14_pact_26 ⟨by decide, by decide⟩ ?_
    refine g_if_eq (tgt := 41) X dX14_pact_29 (by decide) (fun hc => ?_) (fun hc => ?_)
    · have hf := ife_t hc hf
      refine g_sub (lvsub_of _ _ [0] rfl) ?_
      exact t_X14_pact_41 X hr _ _ _ hf hK
    · have hf := ife_f hc hf
      refine g_aload_n X dX14_pact_32 rfl rfl ?_
      refine g_iload_n X dX14_pact_33 rfl rfl ?_
      refine g_iload_n X dX14_pact_34 rfl rfl ?_
      obtain ⟨hT11, hf⟩ := ck_e hf
      obtain ⟨r10, M10, hq10, hf⟩ := bd_e hf
      refine g_callV (ci := 12) (b := x0) (As := [vI x1, vI x2]) (st := []) (v := some (vI r10)) (M1 := M10) X (m_X14_pactTold l hq10) (cwV 2 X.2.2.1 gX14_pact_X14_pactTold rfl rfl rfl (by decide +kernel) ⟨Nat.le_of_ble_eq_true rfl, Nat.le_of_ble_eq_true rfl⟩) rfl rfl rfl hT11 (by decide) rfl (Nat.le_of_ble_eq_true rfl) dX14_pact_35 ⟨by decide, by decide⟩ ?_
      refine g_goto (tgt := 46) X dX14_pact_38 (by decide) ?_
      refine g_sub (lvsub_of _ _ [] rfl) ?_
      exact t_X14_pact_46 X hr _ _ _ hf hK
set_option maxHeartbeats 4000000 in
set_option maxRecDepth 100000 in
theorem m_X14_pact (l : Launch) {D : va_G} {cy : Nat → ClassId} {B : Nat} {H0 : Heap} {Z : Nat → Nat} {M M1 : gMem} {x0 : Nat} {x1 : Int32} {x2 : Int32} {r : Int32} (hf : f_X14_pact M x0 x1 x2 = some (r, M1)) : Met l yX14_pact wsX14_pact rX14_pact (va_Pc (Value.ref x0 :: List.map gv [vI x1, vI x2]) (gPre D cy B H0 (gSt Z B H0) M)) (gQ D cy B H0 (some (vI r)) M1) 1 7 (gA B) := by
  refine Met.ofW (cc := cX14_pact) (maxL := 3) (ret := (some .int)) (by decide) rfl ?_
  intro p e s m args below meth c s₁ Bd hml hv
  obtain ⟨rfl, hW, hKK, hFs⟩ := hv
  have X : gX p s m _ meth c D cy B (gSt Z B H0) RX14 cX14_pact wsX14_pact 3 := ⟨Bd.exec, Bd.bytes, atoms_spec (ws := wsX14_pact) Bd.pre, findClass_of_methodNamed Bd.named, hml, hKK, by rw [hW.1]; exact hW.2.1, Bd.notSynchronized, hFs⟩
  have hr := Bd.returns
  have hl := lv_entry ([.ref x0, .int x1, .int x2]) (n := 3) (Nat.le_of_ble_eq_true rfl)
  show W p l e rX14_pact s m _ below meth c s.heap [] 0 0 _ (entryFrame m ([.ref x0, .int x1, .int x2] : List Value).toArray 3)
  rw [lg_entry_eq]
  generalize (lg_sl ([.ref x0, .int x1, .int x2]) ++ List.replicate (3 - (lg_sl ([.ref x0, .int x1, .int x2])).length) Slot.unset).toArray = ls at hl ⊢
  have hl : lv_has ls 3 (List.map gq [(0, vR (some x0)), (1, vI x1), (2, vI x2)]) := hl
  exact t_X14_pact_0 X hr _ _ _ _ _ hf rfl s.heap [] ls hW va_S.rf (lv_has_sub hl (lvsub_of _ _ [0, 1, 2] rfl))
end
