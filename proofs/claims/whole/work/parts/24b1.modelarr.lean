section
variable {p : Program} {l : Launch} {e : Env} {s : State} {m : MethodId} {args : Array Value} {below : List Frame} {meth : Method} {c : Code} {D : va_G} {cy : Nat → ClassId} {B : Nat} {H0 : Heap} {Z : Nat → Nat}
/-! ## TideLotsModel.feed(IIIII)I -/
theorem dX14_feed_0 : decode cX14_feed 0 = .ok (.aload_n 0, 1) := by decide +kernel
theorem dX14_feed_1 : decode cX14_feed 1 = .ok (.iconst 0, 1) := by decide +kernel
theorem dX14_feed_2 : decode cX14_feed 2 = .ok (.putfield 57, 3) := by decide +kernel
theorem dX14_feed_5 : decode cX14_feed 5 = .ok (.aload_n 0, 1) := by decide +kernel
theorem dX14_feed_6 : decode cX14_feed 6 = .ok (.getfield 79, 3) := by decide +kernel
theorem dX14_feed_9 : decode cX14_feed 9 = .ok (.sipush 1980, 3) := by decide +kernel
theorem dX14_feed_12 : decode cX14_feed 12 = .ok (.if_icmp .le 9, 3) := by decide +kernel
theorem dX14_feed_15 : decode cX14_feed 15 = .ok (.aload_n 0, 1) := by decide +kernel
theorem dX14_feed_16 : decode cX14_feed 16 = .ok (.iconst 1, 1) := by decide +kernel
theorem dX14_feed_17 : decode cX14_feed 17 = .ok (.invokevirtual 276, 3) := by decide +kernel
theorem dX14_feed_20 : decode cX14_feed 20 = .ok (.ireturn, 1) := by decide +kernel
theorem dX14_feed_21 : decode cX14_feed 21 = .ok (.iconst 5, 1) := by decide +kernel
theorem dX14_feed_22 : decode cX14_feed 22 = .ok (.newarray .int, 2) := by decide +kernel
theorem dX14_feed_24 : decode cX14_feed 24 = .ok (.dup, 1) := by decide +kernel
theorem dX14_feed_25 : decode cX14_feed 25 = .ok (.iconst 0, 1) := by decide +kernel
theorem dX14_feed_26 : decode cX14_feed 26 = .ok (.iload_n 1, 1) := by decide +kernel
theorem dX14_feed_27 : decode cX14_feed 27 = .ok (.iastore, 1) := by decide +kernel
theorem dX14_feed_28 : decode cX14_feed 28 = .ok (.dup, 1) := by decide +kernel
theorem dX14_feed_29 : decode cX14_feed 29 = .ok (.iconst 1, 1) := by decide +kernel
theorem dX14_feed_30 : decode cX14_feed 30 = .ok (.iload_n 2, 1) := by decide +kernel
theorem dX14_feed_31 : decode cX14_feed 31 = .ok (.iastore, 1) := by decide +kernel
theorem dX14_feed_32 : decode cX14_feed 32 = .ok (.dup, 1) := by decide +kernel
theorem dX14_feed_33 : decode cX14_feed 33 = .ok (.iconst 2, 1) := by decide +kernel
theorem dX14_feed_34 : decode cX14_feed 34 = .ok (.iload_n 3, 1) := by decide +kernel
theorem dX14_feed_35 : decode cX14_feed 35 = .ok (.iastore, 1) := by decide +kernel
theorem dX14_feed_36 : decode cX14_feed 36 = .ok (.dup, 1) := by decide +kernel
theorem dX14_feed_37 : decode cX14_feed 37 = .ok (.iconst 3, 1) := by decide +kernel
theorem dX14_feed_38 : decode cX14_feed 38 = .ok (.iload 4, 2) := by decide +kernel
theorem dX14_feed_40 : decode cX14_feed 40 = .ok (.iastore, 1) := by decide +kernel
theorem dX14_feed_41 : decode cX14_feed 41 = .ok (.dup, 1) := by decide +kernel
theorem dX14_feed_42 : decode cX14_feed 42 = .ok (.iconst 4, 1) := by decide +kernel
theorem dX14_feed_43 : decode cX14_feed 43 = .ok (.iload 5, 2) := by decide +kernel
theorem dX14_feed_45 : decode cX14_feed 45 = .ok (.iastore, 1) := by decide +kernel
theorem dX14_feed_46 : decode cX14_feed 46 = .ok (.astore 6, 2) := by decide +kernel
theorem dX14_feed_48 : decode cX14_feed 48 = .ok (.iconst 0, 1) := by decide +kernel
theorem dX14_feed_49 : decode cX14_feed 49 = .ok (.istore 7, 2) := by decide +kernel
theorem dX14_feed_51 : decode cX14_feed 51 = .ok (.iload 7, 2) := by decide +kernel
theorem dX14_feed_53 : decode cX14_feed 53 = .ok (.bipush 20, 2) := by decide +kernel
theorem dX14_feed_55 : decode cX14_feed 55 = .ok (.if_icmp .ge 43, 3) := by decide +kernel
theorem dX14_feed_58 : decode cX14_feed 58 = .ok (.aload_n 0, 1) := by decide +kernel
theorem dX14_feed_59 : decode cX14_feed 59 = .ok (.getfield 9, 3) := by decide +kernel
theorem dX14_feed_62 : decode cX14_feed 62 = .ok (.aload_n 0, 1) := by decide +kernel
theorem dX14_feed_63 : decode cX14_feed 63 = .ok (.getfield 79, 3) := by decide +kernel
theorem dX14_feed_66 : decode cX14_feed 66 = .ok (.iload 7, 2) := by decide +kernel
theorem dX14_feed_68 : decode cX14_feed 68 = .ok (.iadd, 1) := by decide +kernel
theorem dX14_feed_69 : decode cX14_feed 69 = .ok (.aload 6, 2) := by decide +kernel
theorem dX14_feed_71 : decode cX14_feed 71 = .ok (.iload 7, 2) := by decide +kernel
theorem dX14_feed_73 : decode cX14_feed 73 = .ok (.iconst 4, 1) := by decide +kernel
theorem dX14_feed_74 : decode cX14_feed 74 = .ok (.idiv, 1) := by decide +kernel
theorem dX14_feed_75 : decode cX14_feed 75 = .ok (.iaload, 1) := by decide +kernel
theorem dX14_feed_76 : decode cX14_feed 76 = .ok (.bipush 24, 2) := by decide +kernel
theorem dX14_feed_78 : decode cX14_feed 78 = .ok (.bipush 8, 2) := by decide +kernel
theorem dX14_feed_80 : decode cX14_feed 80 = .ok (.iload 7, 2) := by decide +kernel
theorem dX14_feed_82 : decode cX14_feed 82 = .ok (.iconst 4, 1) := by decide +kernel
theorem dX14_feed_83 : decode cX14_feed 83 = .ok (.irem, 1) := by decide +kernel
theorem dX14_feed_84 : decode cX14_feed 84 = .ok (.imul, 1) := by decide +kernel
theorem dX14_feed_85 : decode cX14_feed 85 = .ok (.isub, 1) := by decide +kernel
theorem dX14_feed_86 : decode cX14_feed 86 = .ok (.ishr, 1) := by decide +kernel
theorem dX14_feed_87 : decode cX14_feed 87 = .ok (.sipush 255, 3) := by decide +kernel
theorem dX14_feed_90 : decode cX14_feed 90 = .ok (.iand, 1) := by decide +kernel
theorem dX14_feed_91 : decode cX14_feed 91 = .ok (.iastore, 1) := by decide +kernel
theorem dX14_feed_92 : decode cX14_feed 92 = .ok (.iinc 7 1, 3) := by decide +kernel
theorem dX14_feed_95 : decode cX14_feed 95 = .ok (.goto (-44), 3) := by decide +kernel
theorem dX14_feed_98 : decode cX14_feed 98 = .ok (.aload_n 0, 1) := by decide +kernel
theorem dX14_feed_99 : decode cX14_feed 99 = .ok (.dup, 1) := by decide +kernel
theorem dX14_feed_100 : decode cX14_feed 100 = .ok (.getfield 79, 3) := by decide +kernel
theorem dX14_feed_103 : decode cX14_feed 103 = .ok (.bipush 20, 2) := by decide +kernel
theorem dX14_feed_105 : decode cX14_feed 105 = .ok (.iadd, 1) := by decide +kernel
theorem dX14_feed_106 : decode cX14_feed 106 = .ok (.putfield 79, 3) := by decide +kernel
theorem dX14_feed_109 : decode cX14_feed 109 = .ok (.aload_n 0, 1) := by decide +kernel
theorem dX14_feed_110 : decode cX14_feed 110 = .ok (.getfield 79, 3) := by decide +kernel
theorem dX14_feed_113 : decode cX14_feed 113 = .ok (.ireturn, 1) := by decide +kernel
set_option maxRecDepth 20000 in
theorem ggX14_feed_X14_no : GoodIn wsX14_feed wsX14_no := goodIn_r _ [9, 1, 10, 11, 12, 13, 14, 15, 16, 17, 18, 19, 20, 21, 22, 23, 24] (by decide +kernel) (by decide +kernel)
set_option maxRecDepth 20000 in
theorem gX14_feed_X14_no : GoodIn wsX14_feed (wsV RX14 276 RX14 yX14_no wsX14_no) := goodIn_app (goodIn_of _ (by decide +kernel)) ggX14_feed_X14_no
theorem k_X14_feed_f79 : Cond.fieldLink RX14 79 "TideLotsModel" "size" "I" ∈ wsX14_feed := by decide +kernel
theorem i_X14_feed_X14 : ∀ w ∈ u_ws RX14 TX14 15, w ∈ wsX14_feed := by decide +kernel
theorem k_X14_feed_f9 : Cond.fieldLink RX14 9 "TideLotsModel" "tape" "[I" ∈ wsX14_feed := by decide +kernel
theorem k_X14_feed_f57 : Cond.fieldLink RX14 57 "TideLotsModel" "thrown" "I" ∈ wsX14_feed := by decide +kernel
theorem k_X14_feed_acint : Cond.arrayClass .int ∈ wsX14_feed := by decide +kernel
abbrev rX14_feed : Room := { frames := 1, cells := 1, slots := 5, locals := 21 }
noncomputable def bb_X14_feed_51 (M : gMem) (x0 : Nat) (x6 : Option Nat) (x7 : Int32) : Option ((gMem × Int32) ⊕ (Int32 × gMem)) :=
  (if (20 : Int32) ≤ x7 then ck (mT M x0 = 13) <| lw (wI M x0 2 (((mI M x0 2) + (20 : Int32)))) fun M2 => oI (some ((mI M2 x0 2), M2)) else ck (mT M x0 = 13) <| dr x6 fun a6 => ck (mT M a6 = 20) <| ck (inb (x7 / (4 : Int32)) (mL M a6)) <| dr ((mR M x0 1)) fun a9 => ck (mT M a9 = 20) <| ck (inb ((mI M x0 2) + x7) (mL M a9)) <| lw (wI M a9 (((mI M x0 2) + x7)).toNatClampNeg ((((mI M a6 ((x7 / (4 : Int32))).toNatClampNeg) >>> (((24 : Int32) - ((8 : Int32) * (x7 - x7 / (4 : Int32) * (4 : Int32)))) &&& 31)) &&& (255 : Int32)))) fun M12 => some (.inl (M12, (x7 + (1 : Int32)))))
noncomputable def lp_X14_feed_51 (M : gMem) (x0 : Nat) (x6 : Option Nat) (x7 : Int32) : Option (Int32 × gMem) :=
  lp (fun (q : gMem × Int32) => bb_X14_feed_51 q.1 x0 x6 q.2) (M, x7)
noncomputable def b_X14_feed_0 (M : gMem) (x0 : Nat) (x1 : Int32) (x2 : Int32) (x3 : Int32) (x4 : Int32) (x5 : Int32) : Option (Int32 × gMem) :=
  ck (mT M x0 = 13) <| lw (wI M x0 0 ((0 : Int32))) fun M17 => (if (mI M17 x0 2) ≤ (1980 : Int32) then lw (nW M17 20 ((5 : Int32)).toNatClampNeg) fun M19 => ck (mT M19 (mN M17) = 20) <| ck (inb (0 : Int32) (mL M19 (mN M17))) <| lw (wI M19 (mN M17) ((0 : Int32)).toNatClampNeg x1) fun M22 => ck (inb (1 : Int32) (mL M22 (mN M17))) <| lw (wI M22 (mN M17) ((1 : Int32)).toNatClampNeg x2) fun M25 => ck (inb (2 : Int32) (mL M25 (mN M17))) <| lw (wI M25 (mN M17) ((2 : Int32)).toNatClampNeg x3) fun M28 => ck (inb (3 : Int32) (mL M28 (mN M17))) <| lw (wI M28 (mN M17) ((3 : Int32)).toNatClampNeg x4) fun M31 => ck (inb (4 : Int32) (mL M31 (mN M17))) <| lw (wI M31 (mN M17) ((4 : Int32)).toNatClampNeg x5) fun M34 => lp_X14_feed_51 M34 x0 ((some (mN M17))) ((0 : Int32)) else bd (f_X14_no M17 x0 ((1 : Int32))) fun r36 M36 => some (r36, M36))
noncomputable def f_X14_feed (M : gMem) (x0 : Nat) (x1 : Int32) (x2 : Int32) (x3 : Int32) (x4 : Int32) (x5 : Int32) : Option (Int32 × gMem) :=
  b_X14_feed_0 M x0 x1 x2 x3 x4 x5
set_option maxHeartbeats 4000000 in
set_option maxRecDepth 100000 in
theorem tb_X14_feed_51 (X : gX p s m args meth c D cy B (gSt Z B H0) RX14 cX14_feed wsX14_feed 8) (hr : meth.sig.returnType = (some .int)) {Q : State → Prop} : ∀ (M : gMem) (x0 : Nat) (x6 : Option Nat) (x7 : Int32) (z : (gMem × Int32) ⊕ (Int32 × gMem)), bb_X14_feed_51 M x0 x6 x7 = some z → (Sum.elim (fun (q : gMem × Int32) => gGo p l e rX14_feed s m args below meth c D cy B H0 8 1 5 Q 51 [(0, vR (some x0)), (6, vR x6), (7, vI q.2)] [] q.1) (fun (r : Int32 × gMem) => Q = gMQ below D cy B H0 args s 1 5 (some (vI r.1)) r.2)) z → gGo p l e rX14_feed s m args below meth c D cy B H0 8 1 5 Q 51 [(0, vR (some x0)), (6, vR x6), (7, vI x7)] [] M := by
  intro M x0 x6 x7 z hf hK
  unfold bb_X14_feed_51 at hf
  refine g_iload X dX14_feed_51 rfl ?_
  refine g_bipush (v := (20 : Int32)) X dX14_feed_53 (by decide) ?_
  refine g_icmp_ge (tgt := 98) X dX14_feed_55 (by decide) (fun hc => ?_) (fun hc => ?_)
  · have hf := ife_t hc hf
    refine g_aload_n X dX14_feed_98 rfl rfl ?_
    refine g_dup X dX14_feed_99 rfl ?_
    obtain ⟨hT1, hf⟩ := ck_e hf
    refine g_get (ci := 12) (v := vI (mI M x0 2)) 2 X cdX14 i_X14_feed_X14 (by decide) k_X14_feed_f79 rfl dX14_feed_100 rfl hT1 rfl ?_
    refine g_bipush (v := (20 : Int32)) X dX14_feed_103 (by decide) ?_
    refine g_iadd X dX14_feed_105 ?_
    refine g_putI (ci := 12) 2 X cdX14 i_X14_feed_X14 (by decide) k_X14_feed_f79 rfl dX14_feed_106 rfl hT1 (Or.inl rfl) rfl rfl rfl ?_
    obtain ⟨M2, hM2, hf⟩ := lw_e hf
    rw [← hM2]
    have hT3 : mT M2 x0 = 13 := by rw [hM2]; exact hT1
    refine g_aload_n X dX14_feed_109 rfl rfl ?_
    refine g_get (ci := 12) (v := vI (mI M2 x0 2)) 2 X cdX14 i_X14_feed_X14 (by decide) k_X14_feed_f79 rfl dX14_feed_110 rfl hT3 rfl ?_
    obtain ⟨w4, hw4, hz4⟩ := oI_e hf
    subst hz4
    have hf := hw4
    cases hf
    refine g_eqQ hK ?_
    exact g_iret X hr dX14_feed_113
  · have hf := ife_f hc hf
    refine g_aload_n X dX14_feed_58 rfl rfl ?_
    obtain ⟨hT5, hf⟩ := ck_e hf
    refine g_get (ci := 12) (v := vR (mR M x0 1)) 1 X cdX14 i_X14_feed_X14 (by decide) k_X14_feed_f9 rfl dX14_feed_59 rfl hT5 rfl ?_
    refine g_aload_n X dX14_feed_62 rfl rfl ?_
    refine g_get (ci := 12) (v := vI (mI M x0 2)) 2 X cdX14 i_X14_feed_X14 (by decide) k_X14_feed_f79 rfl dX14_feed_63 rfl hT5 rfl ?_
    refine g_iload X dX14_feed_66 rfl ?_
    refine g_iadd X dX14_feed_68 ?_
    refine g_aload X dX14_feed_69 rfl ?_
    refine g_iload X dX14_feed_71 rfl ?_
    refine g_iconst (v := (4 : Int32)) X dX14_feed_73 (by decide) ?_
    refine g_idiv X dX14_feed_74 (by decide) ?_
    obtain ⟨a6, ha6, hf⟩ := dr_e hf
    obtain ⟨hT7, hf⟩ := ck_e hf
    obtain ⟨hg8, hf⟩ := ck_e hf
    refine g_iald X dX14_feed_75 ha6 hT7 hg8 ?_
    refine g_bipush (v := (24 : Int32)) X dX14_feed_76 (by decide) ?_
    refine g_bipush (v := (8 : Int32)) X dX14_feed_78 (by decide) ?_
    refine g_iload X dX14_feed_80 rfl ?_
    refine g_iconst (v := (4 : Int32)) X dX14_feed_82 (by decide) ?_
    refine g_irem X dX14_feed_83 (by decide) ?_
    refine g_imul X dX14_feed_84 ?_
    refine g_isub X dX14_feed_85 ?_
    refine g_ishr X dX14_feed_86 ?_
    refine g_sipush (v := (255 : Int32)) X dX14_feed_87 (by decide) ?_
    refine g_iand X dX14_feed_90 ?_
    obtain ⟨a9, ha9, hf⟩ := dr_e hf
    obtain ⟨hT10, hf⟩ := ck_e hf
    obtain ⟨hg11, hf⟩ := ck_e hf
    refine g_iast X dX14_feed_91 ha9 hT10 hg11 ?_
    obtain ⟨M12, hM12, hf⟩ := lw_e hf
    rw [← hM12]
    have hT13 : mT M12 x0 = 13 := by rw [hM12]; exact hT5
    have hT14 : mT M12 a6 = 20 := by rw [hM12]; exact hT7
    have hT15 : mT M12 a9 = 20 := by rw [hM12]; exact hT10
    refine g_iinc (v := (1 : Int32)) (lv' := [(7, vI (x7 + (1 : Int32))), (0, vR (some x0)), (6, vR x6)]) X dX14_feed_92 rfl (by decide) (by decide) rfl ?_
    refine g_goto (tgt := 51) X dX14_feed_95 (by decide) ?_
    cases hf
    refine g_sub (lvsub_of _ _ [1, 2, 0] rfl) ?_
    exact hK
set_option maxHeartbeats 4000000 in
set_option maxRecDepth 100000 in
theorem tl_X14_feed_51 (X : gX p s m args meth c D cy B (gSt Z B H0) RX14 cX14_feed wsX14_feed 8) (hr : meth.sig.returnType = (some .int)) {Q : State → Prop} : ∀ (M : gMem) (x0 : Nat) (x6 : Option Nat) (x7 : Int32) (z : Int32 × gMem), lp_X14_feed_51 M x0 x6 x7 = some z → (fun (r : Int32 × gMem) => Q = gMQ below D cy B H0 args s 1 5 (some (vI r.1)) r.2) z → gGo p l e rX14_feed s m args below meth c D cy B H0 8 1 5 Q 51 [(0, vR (some x0)), (6, vR x6), (7, vI x7)] [] M := by
  intro M x0 x6 x7 z hf hK
  refine lp_ind (P := (fun (q : gMem × Int32) (z : Int32 × gMem) => (fun (r : Int32 × gMem) => Q = gMQ below D cy B H0 args s 1 5 (some (vI r.1)) r.2) z → gGo p l e rX14_feed s m args below meth c D cy B H0 8 1 5 Q 51 [(0, vR (some x0)), (6, vR x6), (7, vI q.2)] [] q.1)) (fun q z hq => ?_) _ _ hf hK
  intro hK
  obtain ⟨w, hw, hm⟩ := hq
  refine tb_X14_feed_51 X hr _ _ _ _ w hw ?_
  cases w with
  | inl a => exact hm hK
  | inr b => cases hm; exact hK
set_option maxHeartbeats 4000000 in
set_option maxRecDepth 100000 in
theorem t_X14_feed_0 (X : gX p s m args meth c D cy B (gSt Z B H0) RX14 cX14_feed wsX14_feed 8) (hr : meth.sig.returnType = (some .int)) {Q : State → Prop} : ∀ (M : gMem) (x0 : Nat) (x1 : Int32) (x2 : Int32) (x3 : Int32) (x4 : Int32) (x5 : Int32) (z : Int32 × gMem), b_X14_feed_0 M x0 x1 x2 x3 x4 x5 = some z → (fun (r : Int32 × gMem) => Q = gMQ below D cy B H0 args s 1 5 (some (vI r.1)) r.2) z → gGo p l e rX14_feed s m args below meth c D cy B H0 8 0 0 Q 0 [(0, vR (some x0)), (1, vI x1), (2, vI x2), (3, vI x3), (4, vI x4), (5, vI x5)] [] M := by
  intro M x0 x1 x2 x3 x4 x5 z hf hK
  unfold b_X14_feed_0 at hf
  refine g_aload_n X dX14_feed_0 rfl rfl ?_
  refine g_iconst (v := (0 : Int32)) X dX14_feed_1 (by decide) ?_
  obtain ⟨hT16, hf⟩ := ck_e hf
  refine g_putI (ci := 12) 0 X cdX14 i_X14_feed_X14 (by decide) k_X14_feed_f57 rfl dX14_feed_2 rfl hT16 (Or.inl rfl) rfl rfl rfl ?_
  obtain ⟨M17, hM17, hf⟩ := lw_e hf
  rw [← hM17]
  have hT18 : mT M17 x0 = 13 := by rw [hM17]; exact hT16
  refine g_aload_n X dX14_feed_5 rfl rfl ?_
  refine g_get (ci := 12) (v := vI (mI M17 x0 2)) 2 X cdX14 i_X14_feed_X14 (by decide) k_X14_feed_f79 rfl dX14_feed_6 rfl hT18 rfl ?_
  refine g_sipush (v := (1980 : Int32)) X dX14_feed_9 (by decide) ?_
  refine g_icmp_le (tgt := 21) X dX14_feed_12 (by decide) (fun hc => ?_) (fun hc => ?_)
  · have hf := ife_t hc hf
    refine g_iconst (v := (5 : Int32)) X dX14_feed_21 (by decide) ?_
    refine g_newa (at' := .int) (t0 := 0) X k_X14_feed_acint (by exact Or.inl ⟨rfl, rfl⟩) (by decide) (by decide) ⟨by decide, by decide⟩ dX14_feed_22 ?_
    obtain ⟨M19, hM19, hf⟩ := lw_e hf
    rw [← hM19]
    refine g_dup X dX14_feed_24 rfl ?_
    refine g_iconst (v := (0 : Int32)) X dX14_feed_25 (by decide) ?_
    refine g_iload_n X dX14_feed_26 rfl rfl ?_
    obtain ⟨hT20, hf⟩ := ck_e hf
    obtain ⟨hg21, hf⟩ := ck_e hf
    refine g_iast X dX14_feed_27 rfl hT20 hg21 ?_
    obtain ⟨M22, hM22, hf⟩ := lw_e hf
    rw [← hM22]
    have hT23 : mT M22 (mN M17) = 20 := by rw [hM22]; exact hT20
    refine g_dup X dX14_feed_28 rfl ?_
    refine g_iconst (v := (1 : Int32)) X dX14_feed_29 (by decide) ?_
    refine g_iload_n X dX14_feed_30 rfl rfl ?_
    obtain ⟨hg24, hf⟩ := ck_e hf
    refine g_iast X dX14_feed_31 rfl hT23 hg24 ?_
    obtain ⟨M25, hM25, hf⟩ := lw_e hf
    rw [← hM25]
    have hT26 : mT M25 (mN M17) = 20 := by rw [hM25]; exact hT23
    refine g_dup X dX14_feed_32 rfl ?_
    refine g_iconst (v := (2 : Int32)) X dX14_feed_33 (by decide) ?_
    refine g_iload_n X dX14_feed_34 rfl rfl ?_
    obtain ⟨hg27, hf⟩ := ck_e hf
    refine g_iast X dX14_feed_35 rfl hT26 hg27 ?_
    obtain ⟨M28, hM28, hf⟩ := lw_e hf
    rw [← hM28]
    have hT29 : mT M28 (mN M17) = 20 := by rw [hM28]; exact hT26
    refine g_dup X dX14_feed_36 rfl ?_
    refine g_iconst (v := (3 : Int32)) X dX14_feed_37 (by decide) ?_
    refine g_iload X dX14_feed_38 rfl ?_
    obtain ⟨hg30, hf⟩ := ck_e hf
    refine g_iast X dX14_feed_40 rfl hT29 hg30 ?_
    obtain ⟨M31, hM31, hf⟩ := lw_e hf
    rw [← hM31]
    have hT32 : mT M31 (mN M17) = 20 := by rw [hM31]; exact hT29
    refine g_dup X dX14_feed_41 rfl ?_
    refine g_iconst (v := (4 : Int32)) X dX14_feed_42 (by decide) ?_
    refine g_iload X dX14_feed_43 rfl ?_
    obtain ⟨hg33, hf⟩ := ck_e hf
    refine g_iast X dX14_feed_45 rfl hT32 hg33 ?_
    obtain ⟨M34, hM34, hf⟩ := lw_e hf
    rw [← hM34]
    have hT35 : mT M34 (mN M17) = 20 := by rw [hM34]; exact hT32
    refine g_astore (lv' := [(6, vR (some (mN M17))), (0, vR (some x0)), (1, vI x1), (2, vI x2), (3, vI x3), (4, vI x4), (5, vI x5)]) X dX14_feed_46 (by decide) rfl ?_
    refine g_iconst (v := (0 : Int32)) X dX14_feed_48 (by decide) ?_
    refine g_istore (lv' := [(7, vI (0 : Int32)), (6, vR (some (mN M17))), (0, vR (some x0)), (1, vI x1), (2, vI x2), (3, vI x3), (4, vI x4), (5, vI x5)]) X dX14_feed_49 (by decide) rfl ?_
    refine g_sub (lvsub_of _ _ [2, 1, 0] rfl) ?_
    exact tl_X14_feed_51 X hr _ _ _ _ _ hf hK
  · have hf := ife_f hc hf
    refine g_aload_n X dX14_feed_15 rfl rfl ?_
    refine g_iconst (v := (1 : Int32)) X dX14_feed_16 (by decide) ?_
    obtain ⟨r36, M36, hq36, hf⟩ := bd_e hf
    refine g_callV (ci := 12) (b := x0) (As := [vI (1 : Int32)]) (st := []) (v := some (vI r36)) (M1 := M36) X (m_X14_no l hq36) (cwV 1 X.2.2.1 gX14_feed_X14_no rfl rfl rfl (by decide +kernel) ⟨Nat.le_of_ble_eq_true rfl, Nat.le_of_ble_eq_true rfl⟩) rfl rfl rfl hT18 (by decide) rfl (Nat.le_of_ble_eq_true rfl) dX14_feed_17 ⟨by decide, by decide⟩ ?_
    cases hf
    refine g_eqQ hK ?_
    refine g_wide (k' := 1) (n' := 5) (by decide) (by decide) ?_
    exact g_iret X hr dX14_feed_20
set_option maxHeartbeats 4000000 in
set_option maxRecDepth 100000 in
theorem m_X14_feed (l : Launch) {D : va_G} {cy : Nat → ClassId} {B : Nat} {H0 : Heap} {Z : Nat → Nat} {M M1 : gMem} {x0 : Nat} {x1 : Int32} {x2 : Int32} {x3 : Int32} {x4 : Int32} {x5 : Int32} {r : Int32} (hf : f_X14_feed M x0 x1 x2 x3 x4 x5 = some (r, M1)) : Met l yX14_feed wsX14_feed rX14_feed (va_Pc (Value.ref x0 :: List.map gv [vI x1, vI x2, vI x3, vI x4, vI x5]) (gPre D cy B H0 (gSt Z B H0) M)) (gQ D cy B H0 (some (vI r)) M1) 1 5 (gA B) := by
  refine Met.ofW (cc := cX14_feed) (maxL := 8) (ret := (some .int)) (by decide) rfl ?_
  intro p e s m args below meth c s₁ Bd hml hv
  obtain ⟨rfl, hW, hKK, hFs⟩ := hv
  have X : gX p s m _ meth c D cy B (gSt Z B H0) RX14 cX14_feed wsX14_feed 8 := ⟨Bd.exec, Bd.bytes, atoms_spec (ws := wsX14_feed) Bd.pre, findClass_of_methodNamed Bd.named, hml, hKK, by rw [hW.1]; exact hW.2.1, Bd.notSynchronized, hFs⟩
  have hr := Bd.returns
  have hl := lv_entry ([.ref x0, .int x1, .int x2, .int x3, .int x4, .int x5]) (n := 8) (Nat.le_of_ble_eq_true rfl)
  show W p l e rX14_feed s m _ below meth c s.heap [] 0 0 _ (entryFrame m ([.ref x0, .int x1, .int x2, .int x3, .int x4, .int x5] : List Value).toArray 8)
  rw [lg_entry_eq]
  generalize (lg_sl ([.ref x0, .int x1, .int x2, .int x3, .int x4, .int x5]) ++ List.replicate (8 - (lg_sl ([.ref x0, .int x1, .int x2, .int x3, .int x4, .int x5])).length) Slot.unset).toArray = ls at hl ⊢
  have hl : lv_has ls 8 (List.map gq [(0, vR (some x0)), (1, vI x1), (2, vI x2), (3, vI x3), (4, vI x4), (5, vI x5)]) := hl
  exact t_X14_feed_0 X hr _ _ _ _ _ _ _ _ hf rfl s.heap [] ls hW va_S.rf (lv_has_sub hl (lvsub_of _ _ [0, 1, 2, 3, 4, 5] rfl))
/-! ## TideLotsModel.counted(I)I -/
theorem dX14_counted_0 : decode cX14_counted 0 = .ok (.iconst 0, 1) := by decide +kernel
theorem dX14_counted_1 : decode cX14_counted 1 = .ok (.istore_n 2, 1) := by decide +kernel
theorem dX14_counted_2 : decode cX14_counted 2 = .ok (.iconst 0, 1) := by decide +kernel
theorem dX14_counted_3 : decode cX14_counted 3 = .ok (.istore_n 3, 1) := by decide +kernel
theorem dX14_counted_4 : decode cX14_counted 4 = .ok (.iload_n 3, 1) := by decide +kernel
theorem dX14_counted_5 : decode cX14_counted 5 = .ok (.aload_n 0, 1) := by decide +kernel
theorem dX14_counted_6 : decode cX14_counted 6 = .ok (.getfield 35, 3) := by decide +kernel
theorem dX14_counted_9 : decode cX14_counted 9 = .ok (.getfield 67, 3) := by decide +kernel
theorem dX14_counted_12 : decode cX14_counted 12 = .ok (.if_icmp .ge 38, 3) := by decide +kernel
theorem dX14_counted_15 : decode cX14_counted 15 = .ok (.iload_n 2, 1) := by decide +kernel
theorem dX14_counted_16 : decode cX14_counted 16 = .ok (.aload_n 0, 1) := by decide +kernel
theorem dX14_counted_17 : decode cX14_counted 17 = .ok (.getfield 47, 3) := by decide +kernel
theorem dX14_counted_20 : decode cX14_counted 20 = .ok (.getfield 282, 3) := by decide +kernel
theorem dX14_counted_23 : decode cX14_counted 23 = .ok (.iload_n 3, 1) := by decide +kernel
theorem dX14_counted_24 : decode cX14_counted 24 = .ok (.iaload, 1) := by decide +kernel
theorem dX14_counted_25 : decode cX14_counted 25 = .ok (.aload_n 0, 1) := by decide +kernel
theorem dX14_counted_26 : decode cX14_counted 26 = .ok (.getfield 35, 3) := by decide +kernel
theorem dX14_counted_29 : decode cX14_counted 29 = .ok (.getfield 241, 3) := by decide +kernel
theorem dX14_counted_32 : decode cX14_counted 32 = .ok (.iload_n 3, 1) := by decide +kernel
theorem dX14_counted_33 : decode cX14_counted 33 = .ok (.iaload, 1) := by decide +kernel
theorem dX14_counted_34 : decode cX14_counted 34 = .ok (.if_icmp .le 7, 3) := by decide +kernel
theorem dX14_counted_37 : decode cX14_counted 37 = .ok (.iconst 1, 1) := by decide +kernel
theorem dX14_counted_38 : decode cX14_counted 38 = .ok (.goto 4, 3) := by decide +kernel
theorem dX14_counted_41 : decode cX14_counted 41 = .ok (.iconst 0, 1) := by decide +kernel
theorem dX14_counted_42 : decode cX14_counted 42 = .ok (.iadd, 1) := by decide +kernel
theorem dX14_counted_43 : decode cX14_counted 43 = .ok (.istore_n 2, 1) := by decide +kernel
theorem dX14_counted_44 : decode cX14_counted 44 = .ok (.iinc 3 1, 3) := by decide +kernel
theorem dX14_counted_47 : decode cX14_counted 47 = .ok (.goto (-43), 3) := by decide +kernel
theorem dX14_counted_50 : decode cX14_counted 50 = .ok (.bipush 10, 2) := by decide +kernel
theorem dX14_counted_52 : decode cX14_counted 52 = .ok (.newarray .int, 2) := by decide +kernel
theorem dX14_counted_54 : decode cX14_counted 54 = .ok (.dup, 1) := by decide +kernel
theorem dX14_counted_55 : decode cX14_counted 55 = .ok (.iconst 0, 1) := by decide +kernel
theorem dX14_counted_56 : decode cX14_counted 56 = .ok (.aload_n 0, 1) := by decide +kernel
theorem dX14_counted_57 : decode cX14_counted 57 = .ok (.getfield 47, 3) := by decide +kernel
theorem dX14_counted_60 : decode cX14_counted 60 = .ok (.getfield 283, 3) := by decide +kernel
theorem dX14_counted_63 : decode cX14_counted 63 = .ok (.iastore, 1) := by decide +kernel
theorem dX14_counted_64 : decode cX14_counted 64 = .ok (.dup, 1) := by decide +kernel
theorem dX14_counted_65 : decode cX14_counted 65 = .ok (.iconst 1, 1) := by decide +kernel
theorem dX14_counted_66 : decode cX14_counted 66 = .ok (.aload_n 0, 1) := by decide +kernel
theorem dX14_counted_67 : decode cX14_counted 67 = .ok (.getfield 35, 3) := by decide +kernel
theorem dX14_counted_70 : decode cX14_counted 70 = .ok (.getfield 60, 3) := by decide +kernel
theorem dX14_counted_73 : decode cX14_counted 73 = .ok (.iastore, 1) := by decide +kernel
theorem dX14_counted_74 : decode cX14_counted 74 = .ok (.dup, 1) := by decide +kernel
theorem dX14_counted_75 : decode cX14_counted 75 = .ok (.iconst 2, 1) := by decide +kernel
theorem dX14_counted_76 : decode cX14_counted 76 = .ok (.aload_n 0, 1) := by decide +kernel
theorem dX14_counted_77 : decode cX14_counted 77 = .ok (.getfield 35, 3) := by decide +kernel
theorem dX14_counted_80 : decode cX14_counted 80 = .ok (.getfield 67, 3) := by decide +kernel
theorem dX14_counted_83 : decode cX14_counted 83 = .ok (.iastore, 1) := by decide +kernel
theorem dX14_counted_84 : decode cX14_counted 84 = .ok (.dup, 1) := by decide +kernel
theorem dX14_counted_85 : decode cX14_counted 85 = .ok (.iconst 3, 1) := by decide +kernel
theorem dX14_counted_86 : decode cX14_counted 86 = .ok (.aload_n 0, 1) := by decide +kernel
theorem dX14_counted_87 : decode cX14_counted 87 = .ok (.getfield 35, 3) := by decide +kernel
theorem dX14_counted_90 : decode cX14_counted 90 = .ok (.getfield 228, 3) := by decide +kernel
theorem dX14_counted_93 : decode cX14_counted 93 = .ok (.iastore, 1) := by decide +kernel
theorem dX14_counted_94 : decode cX14_counted 94 = .ok (.dup, 1) := by decide +kernel
theorem dX14_counted_95 : decode cX14_counted 95 = .ok (.iconst 4, 1) := by decide +kernel
theorem dX14_counted_96 : decode cX14_counted 96 = .ok (.aload_n 0, 1) := by decide +kernel
theorem dX14_counted_97 : decode cX14_counted 97 = .ok (.getfield 35, 3) := by decide +kernel
theorem dX14_counted_100 : decode cX14_counted 100 = .ok (.getfield 222, 3) := by decide +kernel
theorem dX14_counted_103 : decode cX14_counted 103 = .ok (.iastore, 1) := by decide +kernel
theorem dX14_counted_104 : decode cX14_counted 104 = .ok (.dup, 1) := by decide +kernel
theorem dX14_counted_105 : decode cX14_counted 105 = .ok (.iconst 5, 1) := by decide +kernel
theorem dX14_counted_106 : decode cX14_counted 106 = .ok (.aload_n 0, 1) := by decide +kernel
theorem dX14_counted_107 : decode cX14_counted 107 = .ok (.getfield 47, 3) := by decide +kernel
theorem dX14_counted_110 : decode cX14_counted 110 = .ok (.aload_n 0, 1) := by decide +kernel
theorem dX14_counted_111 : decode cX14_counted 111 = .ok (.getfield 47, 3) := by decide +kernel
theorem dX14_counted_114 : decode cX14_counted 114 = .ok (.getfield 286, 3) := by decide +kernel
theorem dX14_counted_117 : decode cX14_counted 117 = .ok (.invokevirtual 287, 3) := by decide +kernel
theorem dX14_counted_120 : decode cX14_counted 120 = .ok (.iastore, 1) := by decide +kernel
theorem dX14_counted_121 : decode cX14_counted 121 = .ok (.dup, 1) := by decide +kernel
theorem dX14_counted_122 : decode cX14_counted 122 = .ok (.bipush 6, 2) := by decide +kernel
theorem dX14_counted_124 : decode cX14_counted 124 = .ok (.aload_n 0, 1) := by decide +kernel
theorem dX14_counted_125 : decode cX14_counted 125 = .ok (.getfield 47, 3) := by decide +kernel
theorem dX14_counted_128 : decode cX14_counted 128 = .ok (.aload_n 0, 1) := by decide +kernel
theorem dX14_counted_129 : decode cX14_counted 129 = .ok (.getfield 47, 3) := by decide +kernel
theorem dX14_counted_132 : decode cX14_counted 132 = .ok (.getfield 290, 3) := by decide +kernel
theorem dX14_counted_135 : decode cX14_counted 135 = .ok (.invokevirtual 287, 3) := by decide +kernel
theorem dX14_counted_138 : decode cX14_counted 138 = .ok (.iastore, 1) := by decide +kernel
theorem dX14_counted_139 : decode cX14_counted 139 = .ok (.dup, 1) := by decide +kernel
theorem dX14_counted_140 : decode cX14_counted 140 = .ok (.bipush 7, 2) := by decide +kernel
theorem dX14_counted_142 : decode cX14_counted 142 = .ok (.iload_n 2, 1) := by decide +kernel
theorem dX14_counted_143 : decode cX14_counted 143 = .ok (.iastore, 1) := by decide +kernel
theorem dX14_counted_144 : decode cX14_counted 144 = .ok (.dup, 1) := by decide +kernel
theorem dX14_counted_145 : decode cX14_counted 145 = .ok (.bipush 8, 2) := by decide +kernel
theorem dX14_counted_147 : decode cX14_counted 147 = .ok (.aload_n 0, 1) := by decide +kernel
theorem dX14_counted_148 : decode cX14_counted 148 = .ok (.getfield 47, 3) := by decide +kernel
theorem dX14_counted_151 : decode cX14_counted 151 = .ok (.aload_n 0, 1) := by decide +kernel
theorem dX14_counted_152 : decode cX14_counted 152 = .ok (.getfield 47, 3) := by decide +kernel
theorem dX14_counted_155 : decode cX14_counted 155 = .ok (.getfield 293, 3) := by decide +kernel
theorem dX14_counted_158 : decode cX14_counted 158 = .ok (.invokevirtual 287, 3) := by decide +kernel
theorem dX14_counted_161 : decode cX14_counted 161 = .ok (.iastore, 1) := by decide +kernel
theorem dX14_counted_162 : decode cX14_counted 162 = .ok (.dup, 1) := by decide +kernel
theorem dX14_counted_163 : decode cX14_counted 163 = .ok (.bipush 9, 2) := by decide +kernel
theorem dX14_counted_165 : decode cX14_counted 165 = .ok (.aload_n 0, 1) := by decide +kernel
theorem dX14_counted_166 : decode cX14_counted 166 = .ok (.getfield 79, 3) := by decide +kernel
theorem dX14_counted_169 : decode cX14_counted 169 = .ok (.iastore, 1) := by decide +kernel
theorem dX14_counted_170 : decode cX14_counted 170 = .ok (.astore_n 3, 1) := by decide +kernel
theorem dX14_counted_171 : decode cX14_counted 171 = .ok (.aload_n 3, 1) := by decide +kernel
theorem dX14_counted_172 : decode cX14_counted 172 = .ok (.iload_n 1, 1) := by decide +kernel
theorem dX14_counted_173 : decode cX14_counted 173 = .ok (.iaload, 1) := by decide +kernel
theorem dX14_counted_174 : decode cX14_counted 174 = .ok (.ireturn, 1) := by decide +kernel
set_option maxRecDepth 20000 in
theorem ggX14_counted_X12_sum : GoodIn wsX14_counted wsX12_sum := goodIn_rr wsB_X14_counted_in _ [(1, 8)] (by decide +kernel) (by decide +kernel)
set_option maxRecDepth 20000 in
theorem gX14_counted_X12_sum : GoodIn wsX14_counted (wsV RX14 287 RX12 yX12_sum wsX12_sum) := goodIn_app (goodIn_rr wsB_X14_counted_in _ [(1, 4), (1, 5), (1, 6), (1, 7)] (by decide +kernel) (by decide +kernel)) ggX14_counted_X12_sum
theorem k_X14_counted_f35 : Cond.fieldLink RX14 35 "TideLotsModel" "told" "LTideLotsModel$Told;" ∈ wsX14_counted := by decide +kernel
theorem i_X14_counted_X14 : ∀ w ∈ u_ws RX14 TX14 15, w ∈ wsX14_counted := by decide +kernel
theorem i_X14_counted_X13 : ∀ w ∈ u_ws RX13 TX13 25, w ∈ wsX14_counted := by decide +kernel
theorem k_X14_counted_acint : Cond.arrayClass .int ∈ wsX14_counted := by decide +kernel
theorem k_X14_counted_f47 : Cond.fieldLink RX14 47 "TideLotsModel" "s" "LTideLotsModel$State;" ∈ wsX14_counted := by decide +kernel
theorem kn_X14_283 : Cond.fieldLinkNest "TideLotsModel" (283 : Nat) "TideLotsModel$State" "tide" "I" "TideLotsModel" ∈ gNs := by decide +kernel
theorem i_X14_counted_X12 : ∀ w ∈ u_ws RX12 TX12 19, w ∈ wsX14_counted := by decide +kernel
theorem k_X14_counted_f79 : Cond.fieldLink RX14 79 "TideLotsModel" "size" "I" ∈ wsX14_counted := by decide +kernel
abbrev rX14_counted : Room := { frames := 1, cells := 1, slots := 10, locals := 26 }
noncomputable def b_X14_counted_42 (M : gMem) (x0 : Nat) (x1 : Int32) (x3 : Int32) (s0 : Int32) (s1 : Int32) : Option ((gMem × Int32 × Int32) ⊕ (Int32 × gMem)) :=
  some (.inl (M, (s0 + s1), (x3 + (1 : Int32))))
noncomputable def bb_X14_counted_4 (M : gMem) (x0 : Nat) (x1 : Int32) (x2 : Int32) (x3 : Int32) : Option ((gMem × Int32 × Int32) ⊕ (Int32 × gMem)) :=
  ck (mT M x0 = 13) <| dr ((mR M x0 11)) fun a2 => ck (mT M a2 = 12) <| (if (mI M a2 4) ≤ x3 then lw (nW M 20 ((10 : Int32)).toNatClampNeg) fun M4 => ck (mT M4 x0 = 13) <| dr ((mR M4 x0 13)) fun a6 => ck (mT M4 a6 = 11) <| ck (mT M4 (mN M) = 20) <| ck (inb (0 : Int32) (mL M4 (mN M))) <| lw (wI M4 (mN M) ((0 : Int32)).toNatClampNeg ((mI M4 a6 0))) fun M10 => dr ((mR M10 x0 11)) fun a14 => ck (mT M10 a14 = 12) <| ck (inb (1 : Int32) (mL M10 (mN M))) <| lw (wI M10 (mN M) ((1 : Int32)).toNatClampNeg ((mI M10 a14 0))) fun M17 => dr ((mR M17 x0 11)) fun a22 => ck (mT M17 a22 = 12) <| ck (inb (2 : Int32) (mL M17 (mN M))) <| lw (wI M17 (mN M) ((2 : Int32)).toNatClampNeg ((mI M17 a22 4))) fun M25 => dr ((mR M25 x0 11)) fun a31 => ck (mT M25 a31 = 12) <| ck (inb (3 : Int32) (mL M25 (mN M))) <| lw (wI M25 (mN M) ((3 : Int32)).toNatClampNeg ((mI M25 a31 8))) fun M34 => dr ((mR M34 x0 11)) fun a41 => ck (mT M34 a41 = 12) <| ck (inb (4 : Int32) (mL M34 (mN M))) <| lw (wI M34 (mN M) ((4 : Int32)).toNatClampNeg ((mI M34 a41 11))) fun M44 => dr ((mR M44 x0 13)) fun a52 => ck (mT M44 a52 = 11) <| bd (f_X12_sum M44 a52 ((mR M44 a52 2))) fun r54 M54 => ck (mT M54 (mN M) = 20) <| ck (inb (5 : Int32) (mL M54 (mN M))) <| lw (wI M54 (mN M) ((5 : Int32)).toNatClampNeg r54) fun M57 => ck (mT M57 x0 = 13) <| dr ((mR M57 x0 13)) fun a60 => ck (mT M57 a60 = 11) <| bd (f_X12_sum M57 a60 ((mR M57 a60 6))) fun r62 M62 => ck (mT M62 (mN M) = 20) <| ck (inb (6 : Int32) (mL M62 (mN M))) <| lw (wI M62 (mN M) ((6 : Int32)).toNatClampNeg r62) fun M65 => ck (inb (7 : Int32) (mL M65 (mN M))) <| lw (wI M65 (mN M) ((7 : Int32)).toNatClampNeg x2) fun M68 => ck (mT M68 x0 = 13) <| dr ((mR M68 x0 13)) fun a71 => ck (mT M68 a71 = 11) <| bd (f_X12_sum M68 a71 ((mR M68 a71 10))) fun r73 M73 => ck (mT M73 (mN M) = 20) <| ck (inb (8 : Int32) (mL M73 (mN M))) <| lw (wI M73 (mN M) ((8 : Int32)).toNatClampNeg r73) fun M76 => ck (mT M76 x0 = 13) <| ck (inb (9 : Int32) (mL M76 (mN M))) <| lw (wI M76 (mN M) ((9 : Int32)).toNatClampNeg ((mI M76 x0 2))) fun M80 => ck (inb x1 (mL M80 (mN M))) <| oI (some ((mI M80 (mN M) x1.toNatClampNeg), M80)) else dr ((mR M x0 13)) fun a85 => ck (mT M a85 = 11) <| dr ((mR M a85 5)) fun a87 => ck (mT M a87 = 20) <| ck (inb x3 (mL M a87)) <| dr ((mR M a2 5)) fun a90 => ck (mT M a90 = 20) <| ck (inb x3 (mL M a90)) <| (if (mI M a87 x3.toNatClampNeg) ≤ (mI M a90 x3.toNatClampNeg) then b_X14_counted_42 M x0 x1 x3 x2 ((0 : Int32)) else b_X14_counted_42 M x0 x1 x3 x2 ((1 : Int32))))
noncomputable def lp_X14_counted_4 (M : gMem) (x0 : Nat) (x1 : Int32) (x2 : Int32) (x3 : Int32) : Option (Int32 × gMem) :=
  lp (fun (q : gMem × Int32 × Int32) => bb_X14_counted_4 q.1 x0 x1 q.2.1 q.2.2) (M, x2, x3)
noncomputable def b_X14_counted_0 (M : gMem) (x0 : Nat) (x1 : Int32) : Option (Int32 × gMem) :=
  lp_X14_counted_4 M x0 x1 ((0 : Int32)) ((0 : Int32))
noncomputable def f_X14_counted (M : gMem) (x0 : Nat) (x1 : Int32) : Option (Int32 × gMem) :=
  b_X14_counted_0 M x0 x1
set_option maxHeartbeats 4000000 in
set_option maxRecDepth 100000 in
theorem t_X14_counted_42 (X : gX p s m args meth c D cy B (gSt Z B H0) RX14 cX14_counted wsX14_counted 4) (hr : meth.sig.returnType = (some .int)) {Q : State → Prop} : ∀ (M : gMem) (x0 : Nat) (x1 : Int32) (x3 : Int32) (s0 : Int32) (s1 : Int32) (z : (gMem × Int32 × Int32) ⊕ (Int32 × gMem)), b_X14_counted_42 M x0 x1 x3 s0 s1 = some z → (Sum.elim (fun (q : gMem × Int32 × Int32) => gGo p l e rX14_counted s m args below meth c D cy B H0 4 0 0 Q 4 [(0, vR (some x0)), (1, vI x1), (2, vI q.2.1), (3, vI q.2.2)] [] q.1) (fun (r : Int32 × gMem) => Q = gMQ below D cy B H0 args s 1 10 (some (vI r.1)) r.2)) z → gGo p l e rX14_counted s m args below meth c D cy B H0 4 0 0 Q 42 [(0, vR (some x0)), (1, vI x1), (3, vI x3)] [vI s1, vI s0] M := by
  intro M x0 x1 x3 s0 s1 z hf hK
  unfold b_X14_counted_42 at hf
  refine g_iadd X dX14_counted_42 ?_
  refine g_istore_n (lv' := [(2, vI (s0 + s1)), (0, vR (some x0)), (1, vI x1), (3, vI x3)]) X dX14_counted_43 rfl (by decide) rfl ?_
  refine g_iinc (v := (1 : Int32)) (lv' := [(3, vI (x3 + (1 : Int32))), (2, vI (s0 + s1)), (0, vR (some x0)), (1, vI x1)]) X dX14_counted_44 rfl (by decide) (by decide) rfl ?_
  refine g_goto (tgt := 4) X dX14_counted_47 (by decide) ?_
  cases hf
  refine g_sub (lvsub_of _ _ [2, 3, 1, 0] rfl) ?_
  exact hK
set_option maxHeartbeats 4000000 in
set_option maxRecDepth 100000 in
theorem tb_X14_counted_4 (X : gX p s m args meth c D cy B (gSt Z B H0) RX14 cX14_counted wsX14_counted 4) (hr : meth.sig.returnType = (some .int)) {Q : State → Prop} : ∀ (M : gMem) (x0 : Nat) (x1 : Int32) (x2 : Int32) (x3 : Int32) (z : (gMem × Int32 × Int32) ⊕ (Int32 × gMem)), bb_X14_counted_4 M x0 x1 x2 x3 = some z → (Sum.elim (fun (q : gMem × Int32 × Int32) => gGo p l e rX14_counted s m args below meth c D cy B H0 4 0 0 Q 4 [(0, vR (some x0)), (1, vI x1), (2, vI q.2.1), (3, vI q.2.2)] [] q.1) (fun (r : Int32 × gMem) => Q = gMQ below D cy B H0 args s 1 10 (some (vI r.1)) r.2)) z → gGo p l e rX14_counted s m args below meth c D cy B H0 4 0 0 Q 4 [(0, vR (some x0)), (1, vI x1), (2, vI x2), (3, vI x3)] [] M := by
  intro M x0 x1 x2 x3 z hf hK
  unfold bb_X14_counted_4 at hf
  refine g_iload_n X dX14_counted_4 rfl rfl ?_
  refine g_aload_n X dX14_counted_5 rfl rfl ?_
  obtain ⟨hT1, hf⟩ := ck_e hf
  refine g_get (ci := 12) (v := vR (mR M x0 11)) 11 X cdX14 i_X14_counted_X14 (by decide) k_X14_counted_f35 rfl dX14_counted_6 rfl hT1 rfl ?_
  obtain ⟨a2, ha2, hf⟩ := dr_e hf
  obtain ⟨hT3, hf⟩ := ck_e hf
  refine g_getN (ci := 11) (w := vI (mI M a2 4)) 4 X cdX13 i_X14_counted_X13 (by decide) (gNw X _ kn_X14_67) rfl dX14_counted_9 ha2 hT3 rfl ?_
  refine g_icmp_ge (tgt := 50) X dX14_counted_12 (by decide) (fun hc => ?_) (fun hc => ?_)
  · have hf := ife_t hc hf
    refine g_bipush (v := (10 : Int32)) X dX14_counted_50 (by decide) ?_
    refine g_newa (at' := .int) (t0 := 0) X k_X14_counted_acint (by exact Or.inl ⟨rfl, rfl⟩) (by decide) (by decide) ⟨by decide, by decide⟩ dX14_counted_52 ?_
    obtain ⟨M4, hM4, hf⟩ := lw_e hf
    rw [← hM4]
    refine g_dup X dX14_counted_54 rfl ?_
    refine g_iconst (v := (0 : Int32)) X dX14_counted_55 (by decide) ?_
    refine g_aload_n X dX14_counted_56 rfl rfl ?_
    obtain ⟨hT5, hf⟩ := ck_e hf
    refine g_get (ci := 12) (v := vR (mR M4 x0 13)) 13 X cdX14 i_X14_counted_X14 (by decide) k_X14_counted_f47 rfl dX14_counted_57 rfl hT5 rfl ?_
    obtain ⟨a6, ha6, hf⟩ := dr_e hf
    obtain ⟨hT7, hf⟩ := ck_e hf
    refine g_getN (ci := 10) (w := vI (mI M4 a6 0)) 0 X cdX12 i_X14_counted_X12 (by decide) (gNw X _ kn_X14_283) rfl dX14_counted_60 ha6 hT7 rfl ?_
    obtain ⟨hT8, hf⟩ := ck_e hf
    obtain ⟨hg9, hf⟩ := ck_e hf
    refine g_iast X dX14_counted_63 rfl hT8 hg9 ?_
    obtain ⟨M10, hM10, hf⟩ := lw_e hf
    rw [← hM10]
    have hT11 : mT M10 x0 = 13 := by rw [hM10]; exact hT5
    have hT12 : mT M10 a6 = 11 := by rw [hM10]; exact hT7
    have hT13 : mT M10 (mN M) = 20 := by rw [hM10]; exact hT8
    refine g_dup X dX14_counted_64 rfl ?_
    refine g_iconst (v := (1 : Int32)) X dX14_counted_65 (by decide) ?_
    refine g_aload_n X dX14_counted_66 rfl rfl ?_
    refine g_get (ci := 12) (v := vR (mR M10 x0 11)) 11 X cdX14 i_X14_counted_X14 (by decide) k_X14_counted_f35 rfl dX14_counted_67 rfl hT11 rfl ?_
    obtain ⟨a14, ha14, hf⟩ := dr_e hf
    obtain ⟨hT15, hf⟩ := ck_e hf
    refine g_getN (ci := 11) (w := vI (mI M10 a14 0)) 0 X cdX13 i_X14_counted_X13 (by decide) (gNw X _ kn_X14_60) rfl dX14_counted_70 ha14 hT15 rfl ?_
    obtain ⟨hg16, hf⟩ := ck_e hf
    refine g_iast X dX14_counted_73 rfl hT13 hg16 ?_
    obtain ⟨M17, hM17, hf⟩ := lw_e hf
    rw [← hM17]
    have hT18 : mT M17 x0 = 13 := by rw [hM17]; exact hT11
    have hT19 : mT M17 a6 = 11 := by rw [hM17]; exact hT12
    have hT20 : mT M17 (mN M) = 20 := by rw [hM17]; exact hT13
    have hT21 : mT M17 a14 = 12 := by rw [hM17]; exact hT15
    refine g_dup X dX14_counted_74 rfl ?_
    refine g_iconst (v := (2 : Int32)) X dX14_counted_75 (by decide) ?_
    refine g_aload_n X dX14_counted_76 rfl rfl ?_
    refine g_get (ci := 12) (v := vR (mR M17 x0 11)) 11 X cdX14 i_X14_counted_X14 (by decide) k_X14_counted_f35 rfl dX14_counted_77 rfl hT18 rfl ?_
    obtain ⟨a22, ha22, hf⟩ := dr_e hf
    obtain ⟨hT23, hf⟩ := ck_e hf
    refine g_getN (ci := 11) (w := vI (mI M17 a22 4)) 4 X cdX13 i_X14_counted_X13 (by decide) (gNw X _ kn_X14_67) rfl dX14_counted_80 ha22 hT23 rfl ?_
    obtain ⟨hg24, hf⟩ := ck_e hf
    refine g_iast X dX14_counted_83 rfl hT20 hg24 ?_
    obtain ⟨M25, hM25, hf⟩ := lw_e hf
    rw [← hM25]
    have hT26 : mT M25 x0 = 13 := by rw [hM25]; exact hT18
    have hT27 : mT M25 a6 = 11 := by rw [hM25]; exact hT19
    have hT28 : mT M25 (mN M) = 20 := by rw [hM25]; exact hT20
    have hT29 : mT M25 a14 = 12 := by rw [hM25]; exact hT21
    have hT30 : mT M25 a22 = 12 := by rw [hM25]; exact hT23
    refine g_dup X dX14_counted_84 rfl ?_
    refine g_iconst (v := (3 : Int32)) X dX14_counted_85 (by decide) ?_
    refine g_aload_n X dX14_counted_86 rfl rfl ?_
    refine g_get (ci := 12) (v := vR (mR M25 x0 11)) 11 X cdX14 i_X14_counted_X14 (by decide) k_X14_counted_f35 rfl dX14_counted_87 rfl hT26 rfl ?_
    obtain ⟨a31, ha31, hf⟩ := dr_e hf
    obtain ⟨hT32, hf⟩ := ck_e hf
    refine g_getN (ci := 11) (w := vI (mI M25 a31 8)) 8 X cdX13 i_X14_counted_X13 (by decide) (gNw X _ kn_X14_228) rfl dX14_counted_90 ha31 hT32 rfl ?_
    obtain ⟨hg33, hf⟩ := ck_e hf
    refine g_iast X dX14_counted_93 rfl hT28 hg33 ?_
    obtain ⟨M34, hM34, hf⟩ := lw_e hf
    rw [← hM34]
    have hT35 : mT M34 x0 = 13 := by rw [hM34]; exact hT26
    have hT36 : mT M34 a6 = 11 := by rw [hM34]; exact hT27
    have hT37 : mT M34 (mN M) = 20 := by rw [hM34]; exact hT28
    have hT38 : mT M34 a14 = 12 := by rw [hM34]; exact hT29
    have hT39 : mT M34 a22 = 12 := by rw [hM34]; exact hT30
    have hT40 : mT M34 a31 = 12 := by rw [hM34]; exact hT32
    refine g_dup X dX14_counted_94 rfl ?_
    refine g_iconst (v := (4 : Int32)) X dX14_counted_95 (by decide) ?_
    refine g_aload_n X dX14_counted_96 rfl rfl ?_
    refine g_get (ci := 12) (v := vR (mR M34 x0 11)) 11 X cdX14 i_X14_counted_X14 (by decide) k_X14_counted_f35 rfl dX14_counted_97 rfl hT35 rfl ?_
    obtain ⟨a41, ha41, hf⟩ := dr_e hf
    obtain ⟨hT42, hf⟩ := ck_e hf
    refine g_getN (ci := 11) (w := vI (mI M34 a41 11)) 11 X cdX13 i_X14_counted_X13 (by decide) (gNw X _ kn_X14_222) rfl dX14_counted_100 ha41 hT42 rfl ?_
    obtain ⟨hg43, hf⟩ := ck_e hf
    refine g_iast X dX14_counted_103 rfl hT37 hg43 ?_
    obtain ⟨M44, hM44, hf⟩ := lw_e hf
    rw [← hM44]
    have hT45 : mT M44 x0 = 13 := by rw [hM44]; exact hT35
    have hT46 : mT M44 a6 = 11 := by rw [hM44]; exact hT36
    have hT47 : mT M44 (mN M) = 20 := by rw [hM44]; exact hT37
    have hT48 : mT M44 a14 = 12 := by rw [hM44]; exact hT38
    have hT49 : mT M44 a22 = 12 := by rw [hM44]; exact hT39
    have hT50 : mT M44 a31 = 12 := by rw [hM44]; exact hT40
    have hT51 : mT M44 a41 = 12 := by rw [hM44]; exact hT42
    refine g_dup X dX14_counted_104 rfl ?_
    refine g_iconst (v := (5 : Int32)) X dX14_counted_105 (by decide) ?_
    refine g_aload_n X dX14_counted_106 rfl rfl ?_
    refine g_get (ci := 12) (v := vR (mR M44 x0 13)) 13 X cdX14 i_X14_counted_X14 (by decide) k_X14_counted_f47 rfl dX14_counted_107 rfl hT45 rfl ?_
    refine g_aload_n X dX14_counted_110 rfl rfl ?_
    refine g_get (ci := 12) (v := vR (mR M44 x0 13)) 13 X cdX14 i_X14_counted_X14 (by decide) k_X14_counted_f47 rfl dX14_counted_111 rfl hT45 rfl ?_
    obtain ⟨a52, ha52, hf⟩ := dr_e hf
    obtain ⟨hT53, hf⟩ := ck_e hf
    refine g_getN (ci := 10) (w := vR (mR M44 a52 2)) 2 X cdX12 i_X14_counted_X12 (by decide) (gNw X _ kn_X14_286) rfl dX14_counted_114 ha52 hT53 rfl ?_
    obtain ⟨r54, M54, hq54, hf⟩ := bd_e hf
    refine g_callV (ci := 10) (b := a52) (As := [vR (mR M44 a52 2)]) (st := [vI (5 : Int32), vR (some (mN M)), vR (some (mN M))]) (v := some (vI r54)) (M1 := M54) X (m_X12_sum l hq54) (cwV 1 X.2.2.1 gX14_counted_X12_sum rfl rfl rfl (by decide +kernel) ⟨Nat.le_of_ble_eq_true rfl, Nat.le_of_ble_eq_true rfl⟩) rfl rfl ha52 hT53 (by decide) rfl (Nat.le_of_ble_eq_true rfl) dX14_counted_117 ⟨by decide, by decide⟩ ?_
    obtain ⟨hT55, hf⟩ := ck_e hf
    obtain ⟨hg56, hf⟩ := ck_e hf
    refine g_iast X dX14_counted_120 rfl hT55 hg56 ?_
    obtain ⟨M57, hM57, hf⟩ := lw_e hf
    rw [← hM57]
    have hT58 : mT M57 (mN M) = 20 := by rw [hM57]; exact hT55
    refine g_dup X dX14_counted_121 rfl ?_
    refine g_bipush (v := (6 : Int32)) X dX14_counted_122 (by decide) ?_
    refine g_aload_n X dX14_counted_124 rfl rfl ?_
    obtain ⟨hT59, hf⟩ := ck_e hf
    refine g_get (ci := 12) (v := vR (mR M57 x0 13)) 13 X cdX14 i_X14_counted_X14 (by decide) k_X14_counted_f47 rfl dX14_counted_125 rfl hT59 rfl ?_
    refine g_aload_n X dX14_counted_128 rfl rfl ?_
    refine g_get (ci := 12) (v := vR (mR M57 x0 13)) 13 X cdX14 i_X14_counted_X14 (by decide) k_X14_counted_f47 rfl dX14_counted_129 rfl hT59 rfl ?_
    obtain ⟨a60, ha60, hf⟩ := dr_e hf
    obtain ⟨hT61, hf⟩ := ck_e hf
    refine g_getN (ci := 10) (w := vR (mR M57 a60 6)) 6 X cdX12 i_X14_counted_X12 (by decide) (gNw X _ kn_X14_290) rfl dX14_counted_132 ha60 hT61 rfl ?_
    obtain ⟨r62, M62, hq62, hf⟩ := bd_e hf
    refine g_callV (ci := 10) (b := a60) (As := [vR (mR M57 a60 6)]) (st := [vI (6 : Int32), vR (some (mN M)), vR (some (mN M))]) (v := some (vI r62)) (M1 := M62) X (m_X12_sum l hq62) (cwV 1 X.2.2.1 gX14_counted_X12_sum rfl rfl rfl (by decide +kernel) ⟨Nat.le_of_ble_eq_true rfl, Nat.le_of_ble_eq_true rfl⟩) rfl rfl ha60 hT61 (by decide) rfl (Nat.le_of_ble_eq_true rfl) dX14_counted_135 ⟨by decide, by decide⟩ ?_
    obtain ⟨hT63, hf⟩ := ck_e hf
    obtain ⟨hg64, hf⟩ := ck_e hf
    refine g_iast X dX14_counted_138 rfl hT63 hg64 ?_
    obtain ⟨M65, hM65, hf⟩ := lw_e hf
    rw [← hM65]
    have hT66 : mT M65 (mN M) = 20 := by rw [hM65]; exact hT63
    refine g_dup X dX14_counted_139 rfl ?_
    refine g_bipush (v := (7 : Int32)) X dX14_counted_140 (by decide) ?_
    refine g_iload_n X dX14_counted_142 rfl rfl ?_
    obtain ⟨hg67, hf⟩ := ck_e hf
    refine g_iast X dX14_counted_143 rfl hT66 hg67 ?_
    obtain ⟨M68, hM68, hf⟩ := lw_e hf
    rw [← hM68]
    have hT69 : mT M68 (mN M) = 20 := by rw [hM68]; exact hT66
    refine g_dup X dX14_counted_144 rfl ?_
    refine g_bipush (v := (8 : Int32)) X dX14_counted_145 (by decide) ?_
    refine g_aload_n X dX14_counted_147 rfl rfl ?_
    obtain ⟨hT70, hf⟩ := ck_e hf
    refine g_get (ci := 12) (v := vR (mR M68 x0 13)) 13 X cdX14 i_X14_counted_X14 (by decide) k_X14_counted_f47 rfl dX14_counted_148 rfl hT70 rfl ?_
    refine g_aload_n X dX14_counted_151 rfl rfl ?_
    refine g_get (ci := 12) (v := vR (mR M68 x0 13)) 13 X cdX14 i_X14_counted_X14 (by decide) k_X14_counted_f47 rfl dX14_counted_152 rfl hT70 rfl ?_
    obtain ⟨a71, ha71, hf⟩ := dr_e hf
    obtain ⟨hT72, hf⟩ := ck_e hf
    refine g_getN (ci := 10) (w := vR (mR M68 a71 10)) 10 X cdX12 i_X14_counted_X12 (by decide) (gNw X _ kn_X14_293) rfl dX14_counted_155 ha71 hT72 rfl ?_
    obtain ⟨r73, M73, hq73, hf⟩ := bd_e hf
    refine g_callV (ci := 10) (b := a71) (As := [vR (mR M68 a71 10)]) (st := [vI (8 : Int32), vR (some (mN M)), vR (some (mN M))]) (v := some (vI r73)) (M1 := M73) X (m_X12_sum l hq73) (cwV 1 X.2.2.1 gX14_counted_X12_sum rfl rfl rfl (by decide +kernel) ⟨Nat.le_of_ble_eq_true rfl, Nat.le_of_ble_eq_true rfl⟩) rfl rfl ha71 hT72 (by decide) rfl (Nat.le_of_ble_eq_true rfl) dX14_counted_158 ⟨by decide, by decide⟩ ?_
    obtain ⟨hT74, hf⟩ := ck_e hf
    obtain ⟨hg75, hf⟩ := ck_e hf
    refine g_iast X dX14_counted_161 rfl hT74 hg75 ?_
    obtain ⟨M76, hM76, hf⟩ := lw_e hf
    rw [← hM76]
    have hT77 : mT M76 (mN M) = 20 := by rw [hM76]; exact hT74
    refine g_dup X dX14_counted_162 rfl ?_
    refine g_bipush (v := (9 : Int32)) X dX14_counted_163 (by decide) ?_
    refine g_aload_n X dX14_counted_165 rfl rfl ?_
    obtain ⟨hT78, hf⟩ := ck_e hf
    refine g_get (ci := 12) (v := vI (mI M76 x0 2)) 2 X cdX14 i_X14_counted_X14 (by decide) k_X14_counted_f79 rfl dX14_counted_166 rfl hT78 rfl ?_
    obtain ⟨hg79, hf⟩ := ck_e hf
    refine g_iast X dX14_counted_169 rfl hT77 hg79 ?_
    obtain ⟨M80, hM80, hf⟩ := lw_e hf
    rw [← hM80]
    have hT81 : mT M80 (mN M) = 20 := by rw [hM80]; exact hT77
    have hT82 : mT M80 x0 = 13 := by rw [hM80]; exact hT78
    refine g_astore_n (lv' := [(3, vR (some (mN M))), (0, vR (some x0)), (1, vI x1), (2, vI x2)]) X dX14_counted_170 rfl (by decide) rfl ?_
    refine g_aload_n X dX14_counted_171 rfl rfl ?_
    refine g_iload_n X dX14_counted_172 rfl rfl ?_
    obtain ⟨hg83, hf⟩ := ck_e hf
    refine g_iald X dX14_counted_173 rfl hT81 hg83 ?_
    obtain ⟨w84, hw84, hz84⟩ := oI_e hf
    subst hz84
    have hf := hw84
    cases hf
    refine g_eqQ hK ?_
    exact g_iret X hr dX14_counted_174
  · have hf := ife_f hc hf
    refine g_iload_n X dX14_counted_15 rfl rfl ?_
    refine g_aload_n X dX14_counted_16 rfl rfl ?_
    refine g_get (ci := 12) (v := vR (mR M x0 13)) 13 X cdX14 i_X14_counted_X14 (by decide) k_X14_counted_f47 rfl dX14_counted_17 rfl hT1 rfl ?_
    obtain ⟨a85, ha85, hf⟩ := dr_e hf
    obtain ⟨hT86, hf⟩ := ck_e hf
    refine g_getN (ci := 10) (w := vR (mR M a85 5)) 5 X cdX12 i_X14_counted_X12 (by decide) (gNw X _ kn_X14_282) rfl dX14_counted_20 ha85 hT86 rfl ?_
    refine g_iload_n X dX14_counted_23 rfl rfl ?_
    obtain ⟨a87, ha87, hf⟩ := dr_e hf
    obtain ⟨hT88, hf⟩ := ck_e hf
    obtain ⟨hg89, hf⟩ := ck_e hf
    refine g_iald X dX14_counted_24 ha87 hT88 hg89 ?_
    refine g_aload_n X dX14_counted_25 rfl rfl ?_
    refine g_get (ci := 12) (v := vR (mR M x0 11)) 11 X cdX14 i_X14_counted_X14 (by decide) k_X14_counted_f35 rfl dX14_counted_26 rfl hT1 rfl ?_
    refine g_getN (ci := 11) (w := vR (mR M a2 5)) 5 X cdX13 i_X14_counted_X13 (by decide) (gNw X _ kn_X14_241) rfl dX14_counted_29 ha2 hT3 rfl ?_
    refine g_iload_n X dX14_counted_32 rfl rfl ?_
    obtain ⟨a90, ha90, hf⟩ := dr_e hf
    obtain ⟨hT91, hf⟩ := ck_e hf
    obtain ⟨hg92, hf⟩ := ck_e hf
    refine g_iald X dX14_counted_33 ha90 hT91 hg92 ?_
    refine g_icmp_le (tgt := 41) X dX14_counted_34 (by decide) (fun hc => ?_) (fun hc => ?_)
    · have hf := ife_t hc hf
      refine g_iconst (v := (0 : Int32)) X dX14_counted_41 (by decide) ?_
      refine g_sub (lvsub_of _ _ [0, 1, 3] rfl) ?_
      exact t_X14_counted_42 X hr _ _ _ _ _ _ _ hf hK
    · have hf := ife_f hc hf
      refine g_iconst (v := (1 : Int32)) X dX14_counted_37 (by decide) ?_
      refine g_goto (tgt := 42) X dX14_counted_38 (by decide) ?_
      refine g_sub (lvsub_of _ _ [0, 1, 3] rfl) ?_
      exact t_X14_counted_42 X hr _ _ _ _ _ _ _ hf hK
set_option maxHeartbeats 4000000 in
set_option maxRecDepth 100000 in
theorem tl_X14_counted_4 (X : gX p s m args meth c D cy B (gSt Z B H0) RX14 cX14_counted wsX14_counted 4) (hr : meth.sig.returnType = (some .int)) {Q : State → Prop} : ∀ (M : gMem) (x0 : Nat) (x1 : Int32) (x2 : Int32) (x3 : Int32) (z : Int32 × gMem), lp_X14_counted_4 M x0 x1 x2 x3 = some z → (fun (r : Int32 × gMem) => Q = gMQ below D cy B H0 args s 1 10 (some (vI r.1)) r.2) z → gGo p l e rX14_counted s m args below meth c D cy B H0 4 0 0 Q 4 [(0, vR (some x0)), (1, vI x1), (2, vI x2), (3, vI x3)] [] M := by
  intro M x0 x1 x2 x3 z hf hK
  refine lp_ind (P := (fun (q : gMem × Int32 × Int32) (z : Int32 × gMem) => (fun (r : Int32 × gMem) => Q = gMQ below D cy B H0 args s 1 10 (some (vI r.1)) r.2) z → gGo p l e rX14_counted s m args below meth c D cy B H0 4 0 0 Q 4 [(0, vR (some x0)), (1, vI x1), (2, vI q.2.1), (3, vI q.2.2)] [] q.1)) (fun q z hq => ?_) _ _ hf hK
  intro hK
  obtain ⟨w, hw, hm⟩ := hq
  refine tb_X14_counted_4 X hr _ _ _ _ _ w hw ?_
  cases w with
  | inl a => exact hm hK
  | inr b => cases hm; exact hK
set_option maxHeartbeats 4000000 in
set_option maxRecDepth 100000 in
theorem t_X14_counted_0 (X : gX p s m args meth c D cy B (gSt Z B H0) RX14 cX14_counted wsX14_counted 4) (hr : meth.sig.returnType = (some .int)) {Q : State → Prop} : ∀ (M : gMem) (x0 : Nat) (x1 : Int32) (z : Int32 × gMem), b_X14_counted_0 M x0 x1 = some z → (fun (r : Int32 × gMem) => Q = gMQ below D cy B H0 args s 1 10 (some (vI r.1)) r.2) z → gGo p l e rX14_counted s m args below meth c D cy B H0 4 0 0 Q 0 [(0, vR (some x0)), (1, vI x1)] [] M := by
  intro M x0 x1 z hf hK
  unfold b_X14_counted_0 at hf
  refine g_iconst (v := (0 : Int32)) X dX14_counted_0 (by decide) ?_
  refine g_istore_n (lv' := [(2, vI (0 : Int32)), (0, vR (some x0)), (1, vI x1)]) X dX14_counted_1 rfl (by decide) rfl ?_
  refine g_iconst (v := (0 : Int32)) X dX14_counted_2 (by decide) ?_
  refine g_istore_n (lv' := [(3, vI (0 : Int32)), (2, vI (0 : Int32)), (0, vR (some x0)), (1, vI x1)]) X dX14_counted_3 rfl (by decide) rfl ?_
  refine g_sub (lvsub_of _ _ [2, 3, 1, 0] rfl) ?_
  exact tl_X14_counted_4 X hr _ _ _ _ _ _ hf hK
set_option maxHeartbeats 4000000 in
set_option maxRecDepth 100000 in
theorem m_X14_counted (l : Launch) {D : va_G} {cy : Nat → ClassId} {B : Nat} {H0 : Heap} {Z : Nat → Nat} {M M1 : gMem} {x0 : Nat} {x1 : Int32} {r : Int32} (hf : f_X14_counted M x0 x1 = some (r, M1)) : Met l yX14_counted wsX14_counted rX14_counted (va_Pc (Value.ref x0 :: List.map gv [vI x1]) (gPre D cy B H0 (gSt Z B H0) M)) (gQ D cy B H0 (some (vI r)) M1) 1 10 (gA B) := by
  refine Met.ofW (cc := cX14_counted) (maxL := 4) (ret := (some .int)) (by decide) rfl ?_
  intro p e s m args below meth c s₁ Bd hml hv
  obtain ⟨rfl, hW, hKK, hFs⟩ := hv
  have X : gX p s m _ meth c D cy B (gSt Z B H0) RX14 cX14_counted wsX14_counted 4 := ⟨Bd.exec, Bd.bytes, atoms_spec (ws := wsX14_counted) Bd.pre, findClass_of_methodNamed Bd.named, hml, hKK, by rw [hW.1]; exact hW.2.1, Bd.notSynchronized, hFs⟩
  have hr := Bd.returns
  have hl := lv_entry ([.ref x0, .int x1]) (n := 4) (Nat.le_of_ble_eq_true rfl)
  show W p l e rX14_counted s m _ below meth c s.heap [] 0 0 _ (entryFrame m ([.ref x0, .int x1] : List Value).toArray 4)
  rw [lg_entry_eq]
  generalize (lg_sl ([.ref x0, .int x1]) ++ List.replicate (4 - (lg_sl ([.ref x0, .int x1])).length) Slot.unset).toArray = ls at hl ⊢
  have hl : lv_has ls 4 (List.map gq [(0, vR (some x0)), (1, vI x1)]) := hl
  exact t_X14_counted_0 X hr _ _ _ _ hf rfl s.heap [] ls hW va_S.rf (lv_has_sub hl (lvsub_of _ _ [0, 1] rfl))
/-! ## TideLotsModel.count(I)I -/
theorem dX14_count_0 : decode cX14_count 0 = .ok (.aload_n 0, 1) := by decide +kernel
theorem dX14_count_1 : decode cX14_count 1 = .ok (.iconst 0, 1) := by decide +kernel
theorem dX14_count_2 : decode cX14_count 2 = .ok (.putfield 57, 3) := by decide +kernel
theorem dX14_count_5 : decode cX14_count 5 = .ok (.iload_n 1, 1) := by decide +kernel
theorem dX14_count_6 : decode cX14_count 6 = .ok (.iconst 0, 1) := by decide +kernel
theorem dX14_count_7 : decode cX14_count 7 = .ok (.bipush 9, 2) := by decide +kernel
theorem dX14_count_9 : decode cX14_count 9 = .ok (.invokestatic 63, 3) := by decide +kernel
theorem dX14_count_12 : decode cX14_count 12 = .ok (.ifCond .eq 11, 3) := by decide +kernel
theorem dX14_count_15 : decode cX14_count 15 = .ok (.aload_n 0, 1) := by decide +kernel
theorem dX14_count_16 : decode cX14_count 16 = .ok (.iload_n 1, 1) := by decide +kernel
theorem dX14_count_17 : decode cX14_count 17 = .ok (.invokevirtual 296, 3) := by decide +kernel
theorem dX14_count_20 : decode cX14_count 20 = .ok (.goto 8, 3) := by decide +kernel
theorem dX14_count_23 : decode cX14_count 23 = .ok (.aload_n 0, 1) := by decide +kernel
theorem dX14_count_24 : decode cX14_count 24 = .ok (.iconst 1, 1) := by decide +kernel
theorem dX14_count_25 : decode cX14_count 25 = .ok (.invokevirtual 276, 3) := by decide +kernel
theorem dX14_count_28 : decode cX14_count 28 = .ok (.ireturn, 1) := by decide +kernel
set_option maxRecDepth 20000 in
theorem ggX14_count_X14_isIn : GoodIn wsX14_count wsX14_isIn := goodIn_rr wsB_X14_count_in _ [(1, 4)] (by decide +kernel) (by decide +kernel)
set_option maxRecDepth 20000 in
theorem gX14_count_X14_isIn : GoodIn wsX14_count (va_wsS RX14 63 yX14_isIn wsX14_isIn) := goodIn_app (goodIn_rr wsB_X14_count_in _ [(1, 1), (1, 2), (1, 3)] (by decide +kernel) (by decide +kernel)) ggX14_count_X14_isIn
set_option maxRecDepth 20000 in
theorem ggX14_count_X14_no : GoodIn wsX14_count wsX14_no := goodIn_rr wsB_X14_count_in _ [(1, 21), (1, 0), (2, 0), (2, 1), (2, 2), (2, 3), (2, 4), (2, 5), (2, 6), (2, 7), (2, 8), (2, 9), (2, 10), (2, 11), (2, 12), (2, 13), (2, 14)] (by decide +kernel) (by decide +kernel)
set_option maxRecDepth 20000 in
theorem gX14_count_X14_no : GoodIn wsX14_count (wsV RX14 276 RX14 yX14_no wsX14_no) := goodIn_app (goodIn_rr wsB_X14_count_in _ [(1, 18), (1, 19), (1, 20), (1, 3)] (by decide +kernel) (by decide +kernel)) ggX14_count_X14_no
set_option maxRecDepth 20000 in
theorem ggX14_count_X14_counted : GoodIn wsX14_count wsX14_counted := goodIn_2 24 (goodIn_rr wsB_X14_count_in _ [(1, 8), (1, 9), (1, 10), (1, 11), (1, 12), (1, 13), (1, 14), (1, 15), (1, 16), (1, 17), (2, 0), (2, 1), (2, 2), (2, 3), (2, 4), (2, 5), (2, 6), (2, 7), (2, 8), (2, 9), (2, 10), (2, 11), (2, 12), (2, 13)] (by decide +kernel) (by decide +kernel)) (goodIn_2 24 (goodIn_rr wsB_X14_count_in _ [(2, 14), (3, 0), (3, 1), (3, 2), (3, 3), (3, 4), (3, 5), (3, 6), (3, 7), (3, 8), (3, 9), (3, 10), (3, 11), (3, 12), (3, 13), (3, 14), (3, 15), (3, 16), (3, 17), (3, 18), (3, 19), (3, 20), (3, 21), (3, 22)] (by decide +kernel) (by decide +kernel)) (goodIn_rr wsB_X14_count_in _ [(3, 23), (3, 24), (4, 0), (4, 1), (4, 2), (4, 3), (4, 4), (4, 5), (4, 6), (4, 7), (4, 8), (4, 9), (4, 10), (4, 11), (4, 12), (4, 13), (4, 14), (4, 15), (4, 16), (4, 17), (4, 18)] (by decide +kernel) (by decide +kernel)))
set_option maxRecDepth 20000 in
theorem gX14_count_X14_counted : GoodIn wsX14_count (wsV RX14 296 RX14 yX14_counted wsX14_counted) := goodIn_app (goodIn_rr wsB_X14_count_in _ [(1, 5), (1, 6), (1, 7), (1, 3)] (by decide +kernel) (by decide +kernel)) ggX14_count_X14_counted
theorem k_X14_count_f57 : Cond.fieldLink RX14 57 "TideLotsModel" "thrown" "I" ∈ wsX14_count := by decide +kernel
theorem i_X14_count_X14 : ∀ w ∈ u_ws RX14 TX14 15, w ∈ wsX14_count := by decide +kernel
abbrev rX14_count : Room := { frames := 2, cells := 1, slots := 10, locals := 49 }
noncomputable def b_X14_count_28 (M : gMem) (s0 : Int32) : Option (Int32 × gMem) :=
  some (s0, M)
noncomputable def b_X14_count_0 (M : gMem) (x0 : Nat) (x1 : Int32) : Option (Int32 × gMem) :=
  ck (mT M x0 = 13) <| lw (wI M x0 0 ((0 : Int32))) fun M2 => bd (f_X14_isIn M2 x1 ((0 : Int32)) ((9 : Int32))) fun r4 M4 => (if r4 = 0 then ck (mT M4 x0 = 13) <| bd (f_X14_no M4 x0 ((1 : Int32))) fun r5 M5 => b_X14_count_28 M5 r5 else ck (mT M4 x0 = 13) <| bd (f_X14_counted M4 x0 x1) fun r7 M7 => b_X14_count_28 M7 r7)
noncomputable def f_X14_count (M : gMem) (x0 : Nat) (x1 : Int32) : Option (Int32 × gMem) :=
  b_X14_count_0 M x0 x1
set_option maxHeartbeats 4000000 in
set_option maxRecDepth 100000 in
theorem t_X14_count_28 (X : gX p s m args meth c D cy B (gSt Z B H0) RX14 cX14_count wsX14_count 2) (hr : meth.sig.returnType = (some .int)) {Q : State → Prop} : ∀ (M : gMem) (s0 : Int32) (z : Int32 × gMem), b_X14_count_28 M s0 = some z → (fun (r : Int32 × gMem) => Q = gMQ below D cy B H0 args s 1 10 (some (vI r.1)) r.2) z → gGo p l e rX14_count s m args below meth c D cy B H0 2 1 10 Q 28 [] [vI s0] M := by
  intro M s0 z hf hK
  unfold b_X14_count_28 at hf
  cases hf
  refine g_eqQ hK ?_
  exact g_iret X hr dX14_count_28
set_option maxHeartbeats 4000000 in
set_option maxRecDepth 100000 in
theorem t_X14_count_0 (X : gX p s m args meth c D cy B (gSt Z B H0) RX14 cX14_count wsX14_count 2) (hr : meth.sig.returnType = (some .int)) {Q : State → Prop} : ∀ (M : gMem) (x0 : Nat) (x1 : Int32) (z : Int32 × gMem), b_X14_count_0 M x0 x1 = some z → (fun (r : Int32 × gMem) => Q = gMQ below D cy B H0 args s 1 10 (some (vI r.1)) r.2) z → gGo p l e rX14_count s m args below meth c D cy B H0 2 0 0 Q 0 [(0, vR (some x0)), (1, vI x1)] [] M := by
  intro M x0 x1 z hf hK
  unfold b_X14_count_0 at hf
  refine g_aload_n X dX14_count_0 rfl rfl ?_
  refine g_iconst (v := (0 : Int32)) X dX14_count_1 (by decide) ?_
  obtain ⟨hT1, hf⟩ := ck_e hf
  refine g_putI (ci := 12) 0 X cdX14 i_X14_count_X14 (by decide) k_X14_count_f57 rfl dX14_count_2 rfl hT1 (Or.inl rfl) rfl rfl rfl ?_
  obtain ⟨M2, hM2, hf⟩ := lw_e hf
  rw [← hM2]
  have hT3 : mT M2 x0 = 13 := by rw [hM2]; exact hT1
  refine g_iload_n X dX14_count_5 rfl rfl ?_
  refine g_iconst (v := (0 : Int32)) X dX14_count_6 (by decide) ?_
  refine g_bipush (v := (9 : Int32)) X dX14_count_7 (by decide) ?_
  obtain ⟨r4, M4, hq4, hf⟩ := bd_e hf
  refine g_callS (As := [vI x1, vI (0 : Int32), vI (9 : Int32)]) (st := []) (v := some (vI r4)) (M1 := M4) X (m_X14_isIn l hq4) (va_cwS 3 X.2.2.1 gX14_count_X14_isIn rfl rfl rfl (by decide +kernel) ⟨Nat.le_of_ble_eq_true rfl, Nat.le_of_ble_eq_true rfl⟩) rfl rfl (Nat.le_of_ble_eq_true rfl) dX14_count_9 ⟨by decide, by decide⟩ ?_
  refine g_if_eq (tgt := 23) X dX14_count_12 (by decide) (fun hc => ?_) (fun hc => ?_)
  · have hf := ife_t hc hf
    refine g_aload_n X dX14_count_23 rfl rfl ?_
    refine g_iconst (v := (1 : Int32)) X dX14_count_24 (by decide) ?_
    obtain ⟨hT6, hf⟩ := ck_e hf
    obtain ⟨r5, M5, hq5, hf⟩ := bd_e hf
    refine g_callV (ci := 12) (b := x0) (As := [vI (1 : Int32)]) (st := []) (v := some (vI r5)) (M1 := M5) X (m_X14_no l hq5) (cwV 1 X.2.2.1 gX14_count_X14_no rfl rfl rfl (by decide +kernel) ⟨Nat.le_of_ble_eq_true rfl, Nat.le_of_ble_eq_true rfl⟩) rfl rfl rfl hT6 (by decide) rfl (Nat.le_of_ble_eq_true rfl) dX14_count_25 ⟨by decide, by decide⟩ ?_
    refine g_sub (lvsub_of _ _ [] rfl) ?_
    refine g_wide (k' := 1) (n' := 10) (by decide) (by decide) ?_
    exact t_X14_count_28 X hr _ _ _ hf hK
  · have hf := ife_f hc hf
    refine g_aload_n X dX14_count_15 rfl rfl ?_
    refine g_iload_n X dX14_count_16 rfl rfl ?_
    obtain ⟨hT8, hf⟩ := ck_e hf
    obtain ⟨r7, M7, hq7, hf⟩ := bd_e hf
    refine g_callV (ci := 12) (b := x0) (As := [vI x1]) (st := []) (v := some (vI r7)) (M1 := M7) X (m_X14_counted l hq7) (cwV 1 X.2.2.1 gX14_count_X14_counted rfl rfl rfl (by decide +kernel) ⟨Nat.le_of_ble_eq_true rfl, Nat.le_of_ble_eq_true rfl⟩) rfl rfl rfl hT8 (by decide) rfl (Nat.le_of_ble_eq_true rfl) dX14_count_17 ⟨by decide, by decide⟩ ?_
    refine g_goto (tgt := 28) X dX14_count_20 (by decide) ?_
    refine g_sub (lvsub_of _ _ [] rfl) ?_
    exact t_X14_count_28 X hr _ _ _ hf hK
set_option maxHeartbeats 4000000 in
set_option maxRecDepth 100000 in
theorem m_X14_count (l : Launch) {D : va_G} {cy : Nat → ClassId} {B : Nat} {H0 : Heap} {Z : Nat → Nat} {M M1 : gMem} {x0 : Nat} {x1 : Int32} {r : Int32} (hf : f_X14_count M x0 x1 = some (r, M1)) : Met l yX14_count wsX14_count rX14_count (va_Pc (Value.ref x0 :: List.map gv [vI x1]) (gPre D cy B H0 (gSt Z B H0) M)) (gQ D cy B H0 (some (vI r)) M1) 1 10 (gA B) := by
  refine Met.ofW (cc := cX14_count) (maxL := 2) (ret := (some .int)) (by decide) rfl ?_
  intro p e s m args below meth c s₁ Bd hml hv
  obtain ⟨rfl, hW, hKK, hFs⟩ := hv
  have X : gX p s m _ meth c D cy B (gSt Z B H0) RX14 cX14_count wsX14_count 2 := ⟨Bd.exec, Bd.bytes, atoms_spec (ws := wsX14_count) Bd.pre, findClass_of_methodNamed Bd.named, hml, hKK, by rw [hW.1]; exact hW.2.1, Bd.notSynchronized, hFs⟩
  have hr := Bd.returns
  have hl := lv_entry ([.ref x0, .int x1]) (n := 2) (Nat.le_of_ble_eq_true rfl)
  show W p l e rX14_count s m _ below meth c s.heap [] 0 0 _ (entryFrame m ([.ref x0, .int x1] : List Value).toArray 2)
  rw [lg_entry_eq]
  generalize (lg_sl ([.ref x0, .int x1]) ++ List.replicate (2 - (lg_sl ([.ref x0, .int x1])).length) Slot.unset).toArray = ls at hl ⊢
  have hl : lv_has ls 2 (List.map gq [(0, vR (some x0)), (1, vI x1)]) := hl
  exact t_X14_count_0 X hr _ _ _ _ hf rfl s.heap [] ls hW va_S.rf (lv_has_sub hl (lvsub_of _ _ [0, 1] rfl))
end
