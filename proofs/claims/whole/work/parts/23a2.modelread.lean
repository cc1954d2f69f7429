section
variable {p : Program} {l : Launch} {e : Env} {s : State} {m : MethodId} {args : Array Value} {below : List Frame} {meth : Method} {c : Code} {D : va_G} {cy : Nat → ClassId} {B : Nat} {H0 : Heap} {Z : Nat → Nat}
/-! ## TideLotsModel.isText()Z -/
theorem dX14_isText_0 : decode cX14_isText 0 = .ok (.aload_n 0, 1) := by decide +kernel
theorem dX14_isText_1 : decode cX14_isText 1 = .ok (.sipush 900, 3) := by decide +kernel
theorem dX14_isText_4 : decode cX14_isText 4 = .ok (.invokevirtual 121, 3) := by decide +kernel
theorem dX14_isText_7 : decode cX14_isText 7 = .ok (.ifCond .ne 89, 3) := by decide +kernel
theorem dX14_isText_10 : decode cX14_isText 10 = .ok (.aload_n 0, 1) := by decide +kernel
theorem dX14_isText_11 : decode cX14_isText 11 = .ok (.iconst 0, 1) := by decide +kernel
theorem dX14_isText_12 : decode cX14_isText 12 = .ok (.invokevirtual 121, 3) := by decide +kernel
theorem dX14_isText_15 : decode cX14_isText 15 = .ok (.ifCond .eq 10, 3) := by decide +kernel
theorem dX14_isText_18 : decode cX14_isText 18 = .ok (.aload_n 0, 1) := by decide +kernel
theorem dX14_isText_19 : decode cX14_isText 19 = .ok (.invokevirtual 132, 3) := by decide +kernel
theorem dX14_isText_22 : decode cX14_isText 22 = .ok (.goto 55, 3) := by decide +kernel
theorem dX14_isText_25 : decode cX14_isText 25 = .ok (.aload_n 0, 1) := by decide +kernel
theorem dX14_isText_26 : decode cX14_isText 26 = .ok (.iconst 3, 1) := by decide +kernel
theorem dX14_isText_27 : decode cX14_isText 27 = .ok (.invokevirtual 121, 3) := by decide +kernel
theorem dX14_isText_30 : decode cX14_isText 30 = .ok (.ifCond .eq 10, 3) := by decide +kernel
theorem dX14_isText_33 : decode cX14_isText 33 = .ok (.aload_n 0, 1) := by decide +kernel
theorem dX14_isText_34 : decode cX14_isText 34 = .ok (.invokevirtual 136, 3) := by decide +kernel
theorem dX14_isText_37 : decode cX14_isText 37 = .ok (.goto 40, 3) := by decide +kernel
theorem dX14_isText_40 : decode cX14_isText 40 = .ok (.aload_n 0, 1) := by decide +kernel
theorem dX14_isText_41 : decode cX14_isText 41 = .ok (.bipush 7, 2) := by decide +kernel
theorem dX14_isText_43 : decode cX14_isText 43 = .ok (.invokevirtual 121, 3) := by decide +kernel
theorem dX14_isText_46 : decode cX14_isText 46 = .ok (.ifCond .eq 10, 3) := by decide +kernel
theorem dX14_isText_49 : decode cX14_isText 49 = .ok (.aload_n 0, 1) := by decide +kernel
theorem dX14_isText_50 : decode cX14_isText 50 = .ok (.invokevirtual 139, 3) := by decide +kernel
theorem dX14_isText_53 : decode cX14_isText 53 = .ok (.goto 24, 3) := by decide +kernel
theorem dX14_isText_56 : decode cX14_isText 56 = .ok (.aload_n 0, 1) := by decide +kernel
theorem dX14_isText_57 : decode cX14_isText 57 = .ok (.bipush 10, 2) := by decide +kernel
theorem dX14_isText_59 : decode cX14_isText 59 = .ok (.invokevirtual 121, 3) := by decide +kernel
theorem dX14_isText_62 : decode cX14_isText 62 = .ok (.ifCond .eq 14, 3) := by decide +kernel
theorem dX14_isText_65 : decode cX14_isText 65 = .ok (.aload_n 0, 1) := by decide +kernel
theorem dX14_isText_66 : decode cX14_isText 66 = .ok (.invokevirtual 142, 3) := by decide +kernel
theorem dX14_isText_69 : decode cX14_isText 69 = .ok (.ifCond .eq 7, 3) := by decide +kernel
theorem dX14_isText_72 : decode cX14_isText 72 = .ok (.iconst 1, 1) := by decide +kernel
theorem dX14_isText_73 : decode cX14_isText 73 = .ok (.goto 4, 3) := by decide +kernel
theorem dX14_isText_76 : decode cX14_isText 76 = .ok (.iconst 0, 1) := by decide +kernel
theorem dX14_isText_77 : decode cX14_isText 77 = .ok (.istore_n 1, 1) := by decide +kernel
theorem dX14_isText_78 : decode cX14_isText 78 = .ok (.iload_n 1, 1) := by decide +kernel
theorem dX14_isText_79 : decode cX14_isText 79 = .ok (.ifCond .eq 12, 3) := by decide +kernel
theorem dX14_isText_82 : decode cX14_isText 82 = .ok (.aload_n 0, 1) := by decide +kernel
theorem dX14_isText_83 : decode cX14_isText 83 = .ok (.bipush 59, 2) := by decide +kernel
theorem dX14_isText_85 : decode cX14_isText 85 = .ok (.invokevirtual 145, 3) := by decide +kernel
theorem dX14_isText_88 : decode cX14_isText 88 = .ok (.ifCond .ne 5, 3) := by decide +kernel
theorem dX14_isText_91 : decode cX14_isText 91 = .ok (.iconst 0, 1) := by decide +kernel
theorem dX14_isText_92 : decode cX14_isText 92 = .ok (.ireturn, 1) := by decide +kernel
theorem dX14_isText_93 : decode cX14_isText 93 = .ok (.goto (-93), 3) := by decide +kernel
theorem dX14_isText_96 : decode cX14_isText 96 = .ok (.iconst 1, 1) := by decide +kernel
theorem dX14_isText_97 : decode cX14_isText 97 = .ok (.ireturn, 1) := by decide +kernel
set_option maxRecDepth 20000 in
theorem ggX14_isText_X14_eatSign : GoodIn wsX14_isText wsX14_eatSign := goodIn_rr wsB_X14_isText_in _ [(1, 23), (1, 16), (1, 17), (1, 18), (1, 3), (1, 19), (1, 6), (1, 0), (1, 1), (1, 2), (1, 4), (1, 5), (5, 0), (5, 1), (5, 2), (5, 3), (5, 4), (5, 5), (5, 6), (5, 7), (5, 8), (5, 9), (5, 10), (5, 11), (5, 12), (5, 13), (5, 14)] (by decide +kernel) (by decide +kernel)
set_option maxRecDepth 20000 in
theorem gX14_isText_X14_eatSign : GoodIn wsX14_isText (wsV RX14 145 RX14 yX14_eatSign wsX14_eatSign) := goodIn_app (goodIn_rr wsB_X14_isText_in _ [(1, 20), (1, 21), (1, 22), (1, 3)] (by decide +kernel) (by decide +kernel)) ggX14_isText_X14_eatSign
set_option maxRecDepth 20000 in
theorem ggX14_isText_X14_is : GoodIn wsX14_isText wsX14_is := goodIn_rr wsB_X14_isText_in _ [(1, 4), (1, 5), (1, 6), (5, 0), (5, 1), (5, 2), (5, 3), (5, 4), (5, 5), (5, 6), (5, 7), (5, 8), (5, 9), (5, 10), (5, 11), (5, 12), (5, 13), (5, 14)] (by decide +kernel) (by decide +kernel)
set_option maxRecDepth 20000 in
theorem gX14_isText_X14_is : GoodIn wsX14_isText (wsV RX14 121 RX14 yX14_is wsX14_is) := goodIn_app (goodIn_rr wsB_X14_isText_in _ [(1, 0), (1, 1), (1, 2), (1, 3)] (by decide +kernel) (by decide +kernel)) ggX14_isText_X14_is
set_option maxRecDepth 20000 in
theorem ggX14_isText_X14_isPactLine : GoodIn wsX14_isText wsX14_isPactLine := goodIn_2 24 (goodIn_rr wsB_X14_isText_in _ [(4, 16), (1, 6), (2, 8), (2, 9), (2, 10), (2, 11), (2, 12), (1, 11), (1, 12), (1, 13), (1, 3), (1, 14), (1, 15), (1, 16), (1, 17), (1, 18), (1, 19), (1, 0), (1, 1), (1, 2), (1, 4), (1, 5), (1, 20), (1, 21)] (by decide +kernel) (by decide +kernel)) (goodIn_2 24 (goodIn_rr wsB_X14_isText_in _ [(1, 22), (1, 23), (3, 18), (3, 19), (3, 20), (3, 21), (3, 22), (3, 23), (4, 0), (3, 10), (3, 11), (3, 12), (3, 13), (2, 20), (2, 21), (2, 22), (2, 23), (4, 1), (4, 2), (4, 3), (4, 4), (4, 5), (3, 5), (4, 6)] (by decide +kernel) (by decide +kernel)) (goodIn_2 24 (goodIn_rr wsB_X14_isText_in _ [(4, 7), (4, 8), (4, 9), (4, 10), (4, 11), (4, 12), (3, 14), (3, 15), (3, 16), (3, 17), (3, 6), (3, 7), (3, 8), (3, 9), (5, 0), (5, 1), (5, 2), (5, 3), (5, 4), (5, 5), (5, 6), (5, 7), (5, 8), (5, 9)] (by decide +kernel) (by decide +kernel)) (goodIn_2 24 (goodIn_rr wsB_X14_isText_in _ [(5, 10), (5, 11), (5, 12), (5, 13), (5, 14), (6, 0), (6, 1), (6, 2), (6, 3), (6, 4), (6, 5), (6, 6), (6, 7), (6, 8), (6, 9), (6, 10), (6, 11), (6, 12), (6, 13), (6, 14), (6, 15), (6, 16), (6, 17), (6, 18)] (by decide +kernel) (by decide +kernel)) (goodIn_rr wsB_X14_isText_in _ [(6, 19), (6, 20), (6, 21), (6, 22), (6, 23), (6, 24)] (by decide +kernel) (by decide +kernel)))))
set_option maxRecDepth 20000 in
theorem gX14_isText_X14_isPactLine : GoodIn wsX14_isText (wsV RX14 142 RX14 yX14_isPactLine wsX14_isPactLine) := goodIn_app (goodIn_rr wsB_X14_isText_in _ [(4, 13), (4, 14), (4, 15), (1, 3)] (by decide +kernel) (by decide +kernel)) ggX14_isText_X14_isPactLine
set_option maxRecDepth 20000 in
theorem ggX14_isText_X14_isGoLine : GoodIn wsX14_isText wsX14_isGoLine := goodIn_2 24 (goodIn_rr wsB_X14_isText_in _ [(2, 7), (1, 15), (1, 6), (2, 8), (2, 9), (2, 10), (2, 11), (2, 12), (1, 11), (1, 12), (1, 13), (1, 3), (1, 14), (1, 16), (1, 17), (1, 18), (1, 19), (1, 0), (1, 1), (1, 2), (1, 4), (1, 5), (2, 13), (2, 14)] (by decide +kernel) (by decide +kernel)) (goodIn_2 24 (goodIn_rr wsB_X14_isText_in _ [(2, 15), (2, 16), (2, 17), (2, 18), (2, 19), (2, 20), (2, 21), (2, 22), (2, 23), (3, 0), (3, 1), (3, 2), (3, 3), (3, 4), (3, 5), (3, 6), (3, 7), (3, 8), (3, 9), (3, 10), (3, 11), (3, 12), (3, 13), (1, 20)] (by decide +kernel) (by decide +kernel)) (goodIn_2 24 (goodIn_rr wsB_X14_isText_in _ [(1, 21), (1, 22), (1, 23), (3, 14), (3, 15), (3, 16), (3, 17), (3, 18), (3, 19), (3, 20), (3, 21), (3, 22), (3, 23), (4, 0), (4, 1), (4, 2), (4, 3), (4, 4), (4, 5), (4, 6), (4, 7), (4, 8), (4, 9), (4, 10)] (by decide +kernel) (by decide +kernel)) (goodIn_2 24 (goodIn_rr wsB_X14_isText_in _ [(4, 11), (4, 12), (5, 0), (5, 1), (5, 2), (5, 3), (5, 4), (5, 5), (5, 6), (5, 7), (5, 8), (5, 9), (5, 10), (5, 11), (5, 12), (5, 13), (5, 14), (6, 0), (6, 1), (6, 2), (6, 3), (6, 4), (6, 5), (6, 6)] (by decide +kernel) (by decide +kernel)) (goodIn_rr wsB_X14_isText_in _ [(6, 7), (6, 8), (6, 9), (6, 10), (6, 11), (6, 12), (6, 13), (6, 14), (6, 15), (6, 16), (6, 17), (6, 18), (6, 19), (6, 20), (6, 21), (6, 22), (6, 23), (6, 24)] (by decide +kernel) (by decide +kernel)))))
set_option maxRecDepth 20000 in
theorem gX14_isText_X14_isGoLine : GoodIn wsX14_isText (wsV RX14 139 RX14 yX14_isGoLine wsX14_isGoLine) := goodIn_app (goodIn_rr wsB_X14_isText_in _ [(2, 4), (2, 5), (2, 6), (1, 3)] (by decide +kernel) (by decide +kernel)) ggX14_isText_X14_isGoLine
set_option maxRecDepth 20000 in
theorem ggX14_isText_X14_isFisherLine : GoodIn wsX14_isText wsX14_isFisherLine := goodIn_rr wsB_X14_isText_in _ [(2, 3), (1, 6), (1, 11), (1, 12), (1, 13), (1, 3), (1, 14), (1, 15), (1, 16), (1, 17), (1, 18), (1, 19), (1, 0), (1, 1), (1, 2), (1, 4), (1, 5), (5, 0), (5, 1), (5, 2), (5, 3), (5, 4), (5, 5), (5, 6), (5, 7), (5, 8), (5, 9), (5, 10), (5, 11), (5, 12), (5, 13), (5, 14)] (by decide +kernel) (by decide +kernel)
set_option maxRecDepth 20000 in
theorem gX14_isText_X14_isFisherLine : GoodIn wsX14_isText (wsV RX14 136 RX14 yX14_isFisherLine wsX14_isFisherLine) := goodIn_app (goodIn_rr wsB_X14_isText_in _ [(2, 0), (2, 1), (2, 2), (1, 3)] (by decide +kernel) (by decide +kernel)) ggX14_isText_X14_isFisherLine
set_option maxRecDepth 20000 in
theorem ggX14_isText_X14_isGroundLine : GoodIn wsX14_isText wsX14_isGroundLine := goodIn_rr wsB_X14_isText_in _ [(1, 10), (1, 6), (1, 11), (1, 12), (1, 13), (1, 3), (1, 14), (1, 15), (1, 16), (1, 17), (1, 18), (1, 19), (1, 0), (1, 1), (1, 2), (1, 4), (1, 5), (1, 20), (1, 21), (1, 22), (1, 23), (5, 0), (5, 1), (5, 2), (5, 3), (5, 4), (5, 5), (5, 6), (5, 7), (5, 8), (5, 9), (5, 10), (5, 11), (5, 12), (5, 13), (5, 14)] (by decide +kernel) (by decide +kernel)
set_option maxRecDepth 20000 in
theorem gX14_isText_X14_isGroundLine : GoodIn wsX14_isText (wsV RX14 132 RX14 yX14_isGroundLine wsX14_isGroundLine) := goodIn_app (goodIn_rr wsB_X14_isText_in _ [(1, 7), (1, 8), (1, 9), (1, 3)] (by decide +kernel) (by decide +kernel)) ggX14_isText_X14_isGroundLine
abbrev rX14_isText : Room := { frames := 70, cells := 0, slots := 0, locals := 2687 }
noncomputable def b_X14_isText_91 (M : gMem)  : Option (Int32 × gMem) :=
  some ((0 : Int32), M)
noncomputable def b_X14_isText_77 (M : gMem) (x0 : Nat) (s0 : Int32) : Option ((gMem) ⊕ (Int32 × gMem)) :=
  (if s0 = 0 then oI (b_X14_isText_91 M ) else ck (mT M x0 = 13) <| bd (f_X14_eatSign M x0 ((59 : Int32))) fun r2 M2 => (if r2 = 0 then oI (b_X14_isText_91 M2 ) else some (.inl M2)))
noncomputable def b_X14_isText_76 (M : gMem) (x0 : Nat) : Option ((gMem) ⊕ (Int32 × gMem)) :=
  b_X14_isText_77 M x0 ((0 : Int32))
noncomputable def bb_X14_isText_0 (M : gMem) (x0 : Nat) : Option ((gMem) ⊕ (Int32 × gMem)) :=
  ck (mT M x0 = 13) <| bd (f_X14_is M x0 ((900 : Int32))) fun r5 M5 => (if r5 = 0 then ck (mT M5 x0 = 13) <| bd (f_X14_is M5 x0 ((0 : Int32))) fun r8 M8 => (if r8 = 0 then ck (mT M8 x0 = 13) <| bd (f_X14_is M8 x0 ((3 : Int32))) fun r10 M10 => (if r10 = 0 then ck (mT M10 x0 = 13) <| bd (f_X14_is M10 x0 ((7 : Int32))) fun r12 M12 => (if r12 = 0 then ck (mT M12 x0 = 13) <| bd (f_X14_is M12 x0 ((10 : Int32))) fun r14 M14 => (if r14 = 0 then b_X14_isText_76 M14 x0 else ck (mT M14 x0 = 13) <| bd (f_X14_isPactLine M14 x0) fun r16 M16 => (if r16 = 0 then b_X14_isText_76 M16 x0 else b_X14_isText_77 M16 x0 ((1 : Int32)))) else ck (mT M12 x0 = 13) <| bd (f_X14_isGoLine M12 x0) fun r18 M18 => b_X14_isText_77 M18 x0 r18) else ck (mT M10 x0 = 13) <| bd (f_X14_isFisherLine M10 x0) fun r20 M20 => b_X14_isText_77 M20 x0 r20) else ck (mT M8 x0 = 13) <| bd (f_X14_isGroundLine M8 x0) fun r22 M22 => b_X14_isText_77 M22 x0 r22) else oI (some ((1 : Int32), M5)))
noncomputable def lp_X14_isText_0 (M : gMem) (x0 : Nat) : Option (Int32 × gMem) :=
  lp (fun (q : gMem) => bb_X14_isText_0 q x0) M
noncomputable def f_X14_isText (M : gMem) (x0 : Nat) : Option (Int32 × gMem) :=
  lp_X14_isText_0 M x0
set_option maxHeartbeats 4000000 in
set_option maxRecDepth 100000 in
theorem t_X14_isText_91 (X : gX p s m args meth c D cy B (gSt Z B H0) RX14 cX14_isText wsX14_isText 2) (hr : meth.sig.returnType = (some .boolean)) {Q : State → Prop} : ∀ (M : gMem)  (z : Int32 × gMem), b_X14_isText_91 M  = some z → (fun (r : Int32 × gMem) => Q = gMQ below D cy B H0 args s 0 0 (some (vI r.1)) r.2) z → gGo p l e rX14_isText s m args below meth c D cy B H0 2 0 0 Q 91 [] [] M := by
  intro M  z hf hK
  unfold b_X14_isText_91 at hf
  refine g_iconst (v := (0 : Int32)) X dX14_isText_91 (by decide) ?_
  cases hf
  refine g_eqQ hK ?_
  exact g_zret X hr (gnb (Or.inl rfl)) dX14_isText_92
set_option maxHeartbeats 4000000 in
set_option maxRecDepth 100000 in
theorem t_X14_isText_77 (X : gX p s m args meth c D cy B (gSt Z B H0) RX14 cX14_isText wsX14_isText 2) (hr : meth.sig.returnType = (some .boolean)) {Q : State → Prop} : ∀ (M : gMem) (x0 : Nat) (s0 : Int32) (z : (gMem) ⊕ (Int32 × gMem)), b_X14_isText_77 M x0 s0 = some z → (Sum.elim (fun (q : gMem) => gGo p l e rX14_isText s m args below meth c D cy B H0 2 0 0 Q 0 [(0, vR (some x0))] [] q) (fun (r : Int32 × gMem) => Q = gMQ below D cy B H0 args s 0 0 (some (vI r.1)) r.2)) z → gGo p l e rX14_isText s m args below meth c D cy B H0 2 0 0 Q 77 [(0, vR (some x0))] [vI s0] M := by
  intro M x0 s0 z hf hK
  unfold b_X14_isText_77 at hf
  refine g_istore_n (lv' := [(1, vI s0), (0, vR (some x0))]) X dX14_isText_77 rfl (by decide) rfl ?_
  refine g_iload_n X dX14_isText_78 rfl rfl ?_
  refine g_if_eq (tgt := 91) X dX14_isText_79 (by decide) (fun hc => ?_) (fun hc => ?_)
  · have hf := ife_t hc hf
    obtain ⟨w1, hw1, hz1⟩ := oI_e hf
    subst hz1
    have hf := hw1
    refine g_sub (lvsub_of _ _ [] rfl) ?_
    exact t_X14_isText_91 X hr _  _ hf hK
  · have hf := ife_f hc hf
    refine g_aload_n X dX14_isText_82 rfl rfl ?_
    refine g_bipush (v := (59 : Int32)) X dX14_isText_83 (by decide) ?_
    obtain ⟨hT3, hf⟩ := ck_e hf
    obtain ⟨r2, M2, hq2, hf⟩ := bd_e hf
    refine g_callV (ci := 12) (b := x0) (As := [vI (59 : Int32)]) (st := []) (v := some (vI r2)) (M1 := M2) X (m_X14_eatSign l hq2) (cwV 1 X.2.2.1 gX14_isText_X14_eatSign rfl rfl rfl (by decide +kernel) ⟨Nat.le_of_ble_eq_true rfl, Nat.le_of_ble_eq_true rfl⟩) rfl rfl rfl hT3 (by decide) rfl (Nat.le_of_ble_eq_true rfl) dX14_isText_85 ⟨by decide, by decide⟩ ?_
    refine g_if_ne (tgt := 93) X dX14_isText_88 (by decide) (fun hc => ?_) (fun hc => ?_)
    · have hf := ife_f hc hf
      refine g_goto (tgt := 0) X dX14_isText_93 (by decide) ?_
      cases hf
      refine g_sub (lvsub_of _ _ [1] rfl) ?_
      exact hK
    · have hf := ife_t hc hf
      obtain ⟨w4, hw4, hz4⟩ := oI_e hf
      subst hz4
      have hf := hw4
      refine g_sub (lvsub_of _ _ [] rfl) ?_
      exact t_X14_isText_91 X hr _  _ hf hK
set_option maxHeartbeats 4000000 in
set_option maxRecDepth 100000 in
theorem t_X14_isText_76 (X : gX p s m args meth c D cy B (gSt Z B H0) RX14 cX14_isText wsX14_isText 2) (hr : meth.sig.returnType = (some .boolean)) {Q : State → Prop} : ∀ (M : gMem) (x0 : Nat) (z : (gMem) ⊕ (Int32 × gMem)), b_X14_isText_76 M x0 = some z → (Sum.elim (fun (q : gMem) => gGo p l e rX14_isText s m args below meth c D cy B H0 2 0 0 Q 0 [(0, vR (some x0))] [] q) (fun (r : Int32 × gMem) => Q = gMQ below D cy B H0 args s 0 0 (some (vI r.1)) r.2)) z → gGo p l e rX14_isText s m args below meth c D cy B H0 2 0 0 Q 76 [(0, vR (some x0))] [] M := by
  intro M x0 z hf hK
  unfold b_X14_isText_76 at hf
  refine g_iconst (v := (0 : Int32)) X dX14_isText_76 (by decide) ?_
  refine g_sub (lvsub_of _ _ [0] rfl) ?_
  exact t_X14_isText_77 X hr _ _ _ _ hf hK
set_option maxHeartbeats 4000000 in
set_option maxRecDepth 100000 in
theorem tb_X14_isText_0 (X : gX p s m args meth c D cy B (gSt Z B H0) RX14 cX14_isText wsX14_isText 2) (hr : meth.sig.returnType = (some .boolean)) {Q : State → Prop} : ∀ (M : gMem) (x0 : Nat) (z : (gMem) ⊕ (Int32 × gMem)), bb_X14_isText_0 M x0 = some z → (Sum.elim (fun (q : gMem) => gGo p l e rX14_isText s m args below meth c D cy B H0 2 0 0 Q 0 [(0, vR (some x0))] [] q) (fun (r : Int32 × gMem) => Q = gMQ below D cy B H0 args s 0 0 (some (vI r.1)) r.2)) z → gGo p l e rX14_isText s m args below meth c D cy B H0 2 0 0 Q 0 [(0, vR (some x0))] [] M := by
  intro M x0 z hf hK
  unfold bb_X14_isText_0 at hf
  refine g_aload_n X dX14_isText_0 rfl rfl ?_
  refine g_sipush (v := (900 : Int32)) X dX14_isText_1 (by decide) ?_
  obtain ⟨hT6, hf⟩ := ck_e hf
  obtain ⟨r5, M5, hq5, hf⟩ := bd_e hf
  refine g_callV (ci := 12) (b := x0) (As := [vI (900 : Int32)]) (st := []) (v := some (vI r5)) (M1 := M5) X (m_X14_is l hq5) (cwV 1 X.2.2.1 gX14_isText_X14_is rfl rfl rfl (by decide +kernel) ⟨Nat.le_of_ble_eq_true rfl, Nat.le_of_ble_eq_true rfl⟩) rfl rfl rfl hT6 (by decide) rfl (Nat.le_of_ble_eq_true rfl) dX14_isText_4 ⟨by decide, by decide⟩ ?_
  refine g_if_ne (tgt := 96) X dX14_isText_7 (by decide) (fun hc => ?_) (fun hc => ?_)
  · have hf := ife_f hc hf
    refine g_iconst (v := (1 : Int32)) X dX14_isText_96 (by decide) ?_
    obtain ⟨w7, hw7, hz7⟩ := oI_e hf
    subst hz7
    have hf := hw7
    cases hf
    refine g_eqQ hK ?_
    exact g_zret X hr (gnb (Or.inr rfl)) dX14_isText_97
  · have hf := ife_t hc hf
    refine g_aload_n X dX14_isText_10 rfl rfl ?_
    refine g_iconst (v := (0 : Int32)) X dX14_isText_11 (by decide) ?_
    obtain ⟨hT9, hf⟩ := ck_e hf
    obtain ⟨r8, M8, hq8, hf⟩ := bd_e hf
    refine g_callV (ci := 12) (b := x0) (As := [vI (0 : Int32)]) (st := []) (v := some (vI r8)) (M1 := M8) X (m_X14_is l hq8) (cwV 1 X.2.2.1 gX14_isText_X14_is rfl rfl rfl (by decide +kernel) ⟨Nat.le_of_ble_eq_true rfl, Nat.le_of_ble_eq_true rfl⟩) rfl rfl rfl hT9 (by decide) rfl (Nat.le_of_ble_eq_true rfl) dX14_isText_12 ⟨by decide, by decide⟩ ?_
    refine g_if_eq (tgt := 25) X dX14_isText_15 (by decide) (fun hc => ?_) (fun hc => ?_)
    · have hf := ife_t hc hf
      refine g_aload_n X dX14_isText_25 rfl rfl ?_
      refine g_iconst (v := (3 : Int32)) X dX14_isText_26 (by decide) ?_
      obtain ⟨hT11, hf⟩ := ck_e hf
      obtain ⟨r10, M10, hq10, hf⟩ := bd_e hf
      refine g_callV (ci := 12) (b := x0) (As := [vI (3 : Int32)]) (st := []) (v := some (vI r10)) (M1 := M10) X (m_X14_is l hq10) (cwV 1 X.2.2.1 gX14_isText_X14_is rfl rfl rfl (by decide +kernel) ⟨Nat.le_of_ble_eq_true rfl, Nat.le_of_ble_eq_true rfl⟩) rfl rfl rfl hT11 (by decide) rfl (Nat.le_of_ble_eq_true rfl) dX14_isText_27 ⟨by decide, by decide⟩ ?_
      refine g_if_eq (tgt := 40) X dX14_isText_30 (by decide) (fun hc => ?_) (fun hc => ?_)
      · have hf := ife_t hc hf
        refine g_aload_n X dX14_isText_40 rfl rfl ?_
        refine g_bipush (v := (7 : Int32)) X dX14_isText_41 (by decide) ?_
        obtain ⟨hT13, hf⟩ := ck_e hf
        obtain ⟨r12, M12, hq12, hf⟩ := bd_e hf
        refine g_callV (ci := 12) (b := x0) (As := [vI (7 : Int32)]) (st := []) (v := some (vI r12)) (M1 := M12) X (m_X14_is l hq12) (cwV 1 X.2.2.1 gX14_isText_X14_is rfl rfl rfl (by decide +kernel) ⟨Nat.le_of_ble_eq_true rfl, Nat.le_of_ble_eq_true rfl⟩) rfl rfl rfl hT13 (by decide) rfl (Nat.le_of_ble_eq_true rfl) dX14_isText_43 ⟨by decide, by decide⟩ ?_
        refine g_if_eq (tgt := 56) X dX14_isText_46 (by decide) (fun hc => ?_) (fun hc => ?_)
        · have hf := ife_t hc hf
          refine g_aload_n X dX14_isText_56 rfl rfl ?_
          refine g_bipush (v := (10 : Int32)) X dX14_isText_57 (by decide) ?_
          obtain ⟨hT15, hf⟩ := ck_e hf
          obtain ⟨r14, M14, hq14, hf⟩ := bd_e hf
          refine g_callV (ci := 12) (b := x0) (As := [vI (10 : Int32)]) (st := []) (v := some (vI r14)) (M1 := M14) X (m_X14_is l hq14) (cwV 1 X.2.2.1 gX14_isText_X14_is rfl rfl rfl (by decide +kernel) ⟨Nat.le_of_ble_eq_true rfl, Nat.le_of_ble_eq_true rfl⟩) rfl rfl rfl hT15 (by decide) rfl (Nat.le_of_ble_eq_true rfl) dX14_isText_59 ⟨by decide, by decide⟩ ?_
          refine g_if_eq (tgt := 76) X dX14_isText_62 (by decide) (fun hc => ?_) (fun hc => ?_)
          · have hf := ife_t hc hf
            refine g_sub (lvsub_of _ _ [0] rfl) ?_
            exact t_X14_isText_76 X hr _ _ _ hf hK
          · have hf := ife_f hc hf
            refine g_aload_n X dX14_isText_65 rfl rfl ?_
            obtain ⟨hT17, hf⟩ := ck_e hf
            obtain ⟨r16, M16, hq16, hf⟩ := bd_e hf
            refine g_callV (ci := 12) (b := x0) (As := []) (st := []) (v := some (vI r16)) (M1 := M16) X (m_X14_isPactLine l hq16) (cwV 0 X.2.2.1 gX14_isText_X14_isPactLine rfl rfl rfl (by decide +kernel) ⟨Nat.le_of_ble_eq_true rfl, Nat.le_of_ble_eq_true rfl⟩) rfl rfl rfl hT17 (by decide) rfl (Nat.le_of_ble_eq_true rfl) dX14_isText_66 ⟨by decide, by decide⟩ ?_
            refine g_if_eq (tgt := 76) X dX14_isText_69 (by decide) (fun hc => ?_) (fun hc => ?_)
            · have hf := ife_t hc hf
              refine g_sub (lvsub_of _ _ [0] rfl) ?_
              exact t_X14_isText_76 X hr _ _ _ hf hK
            · have hf := ife_f hc hf
              refine g_iconst (v := (1 : Int32)) X dX14_isText_72 (by decide) ?_
              refine g_goto (tgt := 77) X dX14_isText_73 (by decide) ?_
              refine g_sub (lvsub_of _ _ [0] rfl) ?_
              exact t_X14_isText_77 X hr _ _ _ _ hf hK
        · have hf := ife_f hc hf
          refine g_aload_n X dX14_isText_49 rfl rfl ?_
          obtain ⟨hT19, hf⟩ := ck_e hf
          obtain ⟨r18, M18, hq18, hf⟩ := bd_e hf
          refine g_callV (ci := 12) (b := x0) (As := []) (st := []) (v := some (vI r18)) (M1 := M18) X (m_X14_isGoLine l hq18) (cwV 0 X.2.2.1 gX14_isText_X14_isGoLine rfl rfl rfl (by decide +kernel) ⟨Nat.le_of_ble_eq_true rfl, Nat.le_of_ble_eq_true rfl⟩) rfl rfl rfl hT19 (by decide) rfl (Nat.le_of_ble_eq_true rfl) dX14_isText_50 ⟨by decide, by decide⟩ ?_
          refine g_goto (tgt := 77) X dX14_isText_53 (by decide) ?_
          refine g_sub (lvsub_of _ _ [0] rfl) ?_
          exact t_X14_isText_77 X hr _ _ _ _ hf hK
      · have hf := ife_f hc hf
        refine g_aload_n X dX14_isText_33 rfl rfl ?_
        obtain ⟨hT21, hf⟩ := ck_e hf
        obtain ⟨r20, M20, hq20, hf⟩ := bd_e hf
        refine g_callV (ci := 12) (b := x0) (As := []) (st := []) (v := some (vI r20)) (M1 := M20) X (m_X14_isFisherLine l hq20) (cwV 0 X.2.2.1 gX14_isText_X14_isFisherLine rfl rfl rfl (by decide +kernel) ⟨Nat.le_of_ble_eq_true rfl, Nat.le_of_ble_eq_true rfl⟩) rfl rfl rfl hT21 (by decide) rfl (Nat.le_of_ble_eq_true rfl) dX14_isText_34 ⟨by decide, by decide⟩ ?_
        refine g_goto (tgt := 77) X dX14_isText_37 (by decide) ?_
        refine g_sub (lvsub_of _ _ [0] rfl) ?_
        exact t_X14_isText_77 X hr _ _ _ _ hf hK
    · have hf := ife_f hc hf
      refine g_aload_n X dX14_isText_18 rfl rfl ?_
      obtain ⟨hT23, hf⟩ := ck_e hf
      obtain ⟨r22, M22, hq22, hf⟩ := bd_e hf
      refine g_callV (ci := 12) (b := x0) (As := []) (st := []) (v := some (vI r22)) (M1 := M22) X (m_X14_isGroundLine l hq22) (cwV 0 X.2.2.1 gX14_isText_X14_isGroundLine rfl rfl rfl (by decide +kernel) ⟨Nat.le_of_ble_eq_true rfl, Nat.le_of_ble_eq_true rfl⟩) rfl rfl rfl hT23 (by decide) rfl (Nat.le_of_ble_eq_true rfl) dX14_isText_19 ⟨by decide, by decide⟩ ?_
      refine g_goto (tgt := 77) X dX14_isText_22 (by decide) ?_
      refine g_sub (lvsub_of _ _ [0] rfl) ?_
      exact t_X14_isText_77 X hr _ _ _ _ hf hK
set_option maxHeartbeats 4000000 in
set_option maxRecDepth 100000 in
theorem tl_X14_isText_0 (X : gX p s m args meth c D cy B (gSt Z B H0) RX14 cX14_isText wsX14_isText 2) (hr : meth.sig.returnType = (some .boolean)) {Q : State → Prop} : ∀ (M : gMem) (x0 : Nat) (z : Int32 × gMem), lp_X14_isText_0 M x0 = some z → (fun (r : Int32 × gMem) => Q = gMQ below D cy B H0 args s 0 0 (some (vI r.1)) r.2) z → gGo p l e rX14_isText s m args below meth c D cy B H0 2 0 0 Q 0 [(0, vR (some x0))] [] M := by
  intro M x0 z hf hK
  refine lp_ind (P := (fun (q : gMem) (z : Int32 × gMem) => (fun (r : Int32 × gMem) => Q = gMQ below D cy B H0 args s 0 0 (some (vI r.1)) r.2) z → gGo p l e rX14_isText s m args below meth c D cy B H0 2 0 0 Q 0 [(0, vR (some x0))] [] q)) (fun q z hq => ?_) _ _ hf hK
  intro hK
  obtain ⟨w, hw, hm⟩ := hq
  refine tb_X14_isText_0 X hr _ _ w hw ?_
  cases w with
  | inl a => exact hm hK
  | inr b => cases hm; exact hK
set_option maxHeartbeats 4000000 in
set_option maxRecDepth 100000 in
theorem m_X14_isText (l : Launch) {D : va_G} {cy : Nat → ClassId} {B : Nat} {H0 : Heap} {Z : Nat → Nat} {M M1 : gMem} {x0 : Nat} {r : Int32} (hf : f_X14_isText M x0 = some (r, M1)) : Met l yX14_isText wsX14_isText rX14_isText (va_Pc (Value.ref x0 :: List.map gv []) (gPre D cy B H0 (gSt Z B H0) M)) (gQ D cy B H0 (some (vI r)) M1) 0 0 (gA B) := by
  refine Met.ofW (cc := cX14_isText) (maxL := 2) (ret := (some .boolean)) (by decide) rfl ?_
  intro p e s m args below meth c s₁ Bd hml hv
  obtain ⟨rfl, hW, hKK, hFs⟩ := hv
  have X : gX p s m _ meth c D cy B (gSt Z B H0) RX14 cX14_isText wsX14_isText 2 := ⟨Bd.exec, Bd.bytes, atoms_spec (ws := wsX14_isText) Bd.pre, findClass_of_methodNamed Bd.named, hml, hKK, by rw [hW.1]; exact hW.2.1, Bd.notSynchronized, hFs⟩
  have hr := Bd.returns
  have hl := lv_entry ([.ref x0]) (n := 2) (Nat.le_of_ble_eq_true rfl)
  show W p l e rX14_isText s m _ below meth c s.heap [] 0 0 _ (entryFrame m ([.ref x0] : List Value).toArray 2)
  rw [lg_entry_eq]
  generalize (lg_sl ([.ref x0]) ++ List.replicate (2 - (lg_sl ([.ref x0])).length) Slot.unset).toArray = ls at hl ⊢
  have hl : lv_has ls 2 (List.map gq [(0, vR (some x0))]) := hl
  exact tl_X14_isText_0 X hr _ _ _ hf rfl s.heap [] ls hW va_S.rf (lv_has_sub hl (lvsub_of _ _ [0] rfl))
/-! ## TideLotsModel.isSame(II)Z -/
theorem dX14_isSame_0 : decode cX14_isSame 0 = .ok (.aload_n 0, 1) := by decide +kernel
theorem dX14_isSame_1 : decode cX14_isSame 1 = .ok (.getfield 23, 3) := by decide +kernel
theorem dX14_isSame_4 : decode cX14_isSame 4 = .ok (.iload_n 1, 1) := by decide +kernel
theorem dX14_isSame_5 : decode cX14_isSame 5 = .ok (.iaload, 1) := by decide +kernel
theorem dX14_isSame_6 : decode cX14_isSame 6 = .ok (.aload_n 0, 1) := by decide +kernel
theorem dX14_isSame_7 : decode cX14_isSame 7 = .ok (.getfield 23, 3) := by decide +kernel
theorem dX14_isSame_10 : decode cX14_isSame 10 = .ok (.iload_n 2, 1) := by decide +kernel
theorem dX14_isSame_11 : decode cX14_isSame 11 = .ok (.iaload, 1) := by decide +kernel
theorem dX14_isSame_12 : decode cX14_isSame 12 = .ok (.if_icmp .eq 5, 3) := by decide +kernel
theorem dX14_isSame_15 : decode cX14_isSame 15 = .ok (.iconst 0, 1) := by decide +kernel
theorem dX14_isSame_16 : decode cX14_isSame 16 = .ok (.ireturn, 1) := by decide +kernel
theorem dX14_isSame_17 : decode cX14_isSame 17 = .ok (.iconst 0, 1) := by decide +kernel
theorem dX14_isSame_18 : decode cX14_isSame 18 = .ok (.istore_n 3, 1) := by decide +kernel
theorem dX14_isSame_19 : decode cX14_isSame 19 = .ok (.iload_n 3, 1) := by decide +kernel
theorem dX14_isSame_20 : decode cX14_isSame 20 = .ok (.aload_n 0, 1) := by decide +kernel
theorem dX14_isSame_21 : decode cX14_isSame 21 = .ok (.getfield 23, 3) := by decide +kernel
theorem dX14_isSame_24 : decode cX14_isSame 24 = .ok (.iload_n 1, 1) := by decide +kernel
theorem dX14_isSame_25 : decode cX14_isSame 25 = .ok (.iaload, 1) := by decide +kernel
theorem dX14_isSame_26 : decode cX14_isSame 26 = .ok (.if_icmp .ge 40, 3) := by decide +kernel
theorem dX14_isSame_29 : decode cX14_isSame 29 = .ok (.aload_n 0, 1) := by decide +kernel
theorem dX14_isSame_30 : decode cX14_isSame 30 = .ok (.getfield 9, 3) := by decide +kernel
theorem dX14_isSame_33 : decode cX14_isSame 33 = .ok (.aload_n 0, 1) := by decide +kernel
theorem dX14_isSame_34 : decode cX14_isSame 34 = .ok (.getfield 20, 3) := by decide +kernel
theorem dX14_isSame_37 : decode cX14_isSame 37 = .ok (.iload_n 1, 1) := by decide +kernel
theorem dX14_isSame_38 : decode cX14_isSame 38 = .ok (.iaload, 1) := by decide +kernel
theorem dX14_isSame_39 : decode cX14_isSame 39 = .ok (.iload_n 3, 1) := by decide +kernel
theorem dX14_isSame_40 : decode cX14_isSame 40 = .ok (.iadd, 1) := by decide +kernel
theorem dX14_isSame_41 : decode cX14_isSame 41 = .ok (.iaload, 1) := by decide +kernel
theorem dX14_isSame_42 : decode cX14_isSame 42 = .ok (.aload_n 0, 1) := by decide +kernel
theorem dX14_isSame_43 : decode cX14_isSame 43 = .ok (.getfield 9, 3) := by decide +kernel
theorem dX14_isSame_46 : decode cX14_isSame 46 = .ok (.aload_n 0, 1) := by decide +kernel
theorem dX14_isSame_47 : decode cX14_isSame 47 = .ok (.getfield 20, 3) := by decide +kernel
theorem dX14_isSame_50 : decode cX14_isSame 50 = .ok (.iload_n 2, 1) := by decide +kernel
theorem dX14_isSame_51 : decode cX14_isSame 51 = .ok (.iaload, 1) := by decide +kernel
theorem dX14_isSame_52 : decode cX14_isSame 52 = .ok (.iload_n 3, 1) := by decide +kernel
theorem dX14_isSame_53 : decode cX14_isSame 53 = .ok (.iadd, 1) := by decide +kernel
theorem dX14_isSame_54 : decode cX14_isSame 54 = .ok (.iaload, 1) := by decide +kernel
theorem dX14_isSame_55 : decode cX14_isSame 55 = .ok (.if_icmp .eq 5, 3) := by decide +kernel
theorem dX14_isSame_58 : decode cX14_isSame 58 = .ok (.iconst 0, 1) := by decide +kernel
theorem dX14_isSame_59 : decode cX14_isSame 59 = .ok (.ireturn, 1) := by decide +kernel
theorem dX14_isSame_60 : decode cX14_isSame 60 = .ok (.iinc 3 1, 3) := by decide +kernel
theorem dX14_isSame_63 : decode cX14_isSame 63 = .ok (.goto (-44), 3) := by decide +kernel
theorem dX14_isSame_66 : decode cX14_isSame 66 = .ok (.iconst 1, 1) := by decide +kernel
theorem dX14_isSame_67 : decode cX14_isSame 67 = .ok (.ireturn, 1) := by decide +kernel
theorem k_X14_isSame_f23 : Cond.fieldLink RX14 23 "TideLotsModel" "many" "[I" ∈ wsX14_isSame := by decide +kernel
theorem i_X14_isSame_X14 : ∀ w ∈ u_ws RX14 TX14 15, w ∈ wsX14_isSame := by decide +kernel
theorem k_X14_isSame_f9 : Cond.fieldLink RX14 9 "TideLotsModel" "tape" "[I" ∈ wsX14_isSame := by decide +kernel
theorem k_X14_isSame_f20 : Cond.fieldLink RX14 20 "TideLotsModel" "from" "[I" ∈ wsX14_isSame := by decide +kernel
abbrev rX14_isSame : Room := { frames := 0, cells := 0, slots := 0, locals := 0 }
noncomputable def bb_X14_isSame_19 (M : gMem) (x0 : Nat) (x1 : Int32) (x2 : Int32) (x3 : Int32) : Option ((gMem × Int32) ⊕ (Int32 × gMem)) :=
  ck (mT M x0 = 13) <| dr ((mR M x0 6)) fun a2 => ck (mT M a2 = 20) <| ck (inb x1 (mL M a2)) <| (if (mI M a2 x1.toNatClampNeg) ≤ x3 then oI (some ((1 : Int32), M)) else dr ((mR M x0 5)) fun a6 => ck (mT M a6 = 20) <| ck (inb x1 (mL M a6)) <| dr ((mR M x0 1)) fun a9 => ck (mT M a9 = 20) <| ck (inb ((mI M a6 x1.toNatClampNeg) + x3) (mL M a9)) <| ck (inb x2 (mL M a6)) <| ck (inb ((mI M a6 x2.toNatClampNeg) + x3) (mL M a9)) <| (if (mI M a9 (((mI M a6 x1.toNatClampNeg) + x3)).toNatClampNeg) = (mI M a9 (((mI M a6 x2.toNatClampNeg) + x3)).toNatClampNeg) then some (.inl (M, (x3 + (1 : Int32)))) else oI (some ((0 : Int32), M))))
noncomputable def lp_X14_isSame_19 (M : gMem) (x0 : Nat) (x1 : Int32) (x2 : Int32) (x3 : Int32) : Option (Int32 × gMem) :=
  lp (fun (q : gMem × Int32) => bb_X14_isSame_19 q.1 x0 x1 x2 q.2) (M, x3)
noncomputable def b_X14_isSame_0 (M : gMem) (x0 : Nat) (x1 : Int32) (x2 : Int32) : Option (Int32 × gMem) :=
  ck (mT M x0 = 13) <| dr ((mR M x0 6)) fun a16 => ck (mT M a16 = 20) <| ck (inb x1 (mL M a16)) <| ck (inb x2 (mL M a16)) <| (if (mI M a16 x1.toNatClampNeg) = (mI M a16 x2.toNatClampNeg) then lp_X14_isSame_19 M x0 x1 x2 ((0 : Int32)) else some ((0 : Int32), M))
noncomputable def f_X14_isSame (M : gMem) (x0 : Nat) (x1 : Int32) (x2 : Int32) : Option (Int32 × gMem) :=
  b_X14_isSame_0 M x0 x1 x2
set_option maxHeartbeats 4000000 in
set_option maxRecDepth 100000 in
theorem tb_X14_isSame_19 (X : gX p s m args meth c D cy B (gSt Z B H0) RX14 cX14_isSame wsX14_isSame 4) (hr : meth.sig.returnType = (some .boolean)) {Q : State → Prop} : ∀ (M : gMem) (x0 : Nat) (x1 : Int32) (x2 : Int32) (x3 : Int32) (z : (gMem × Int32) ⊕ (Int32 × gMem)), bb_X14_isSame_19 M x0 x1 x2 x3 = some z → (Sum.elim (fun (q : gMem × Int32) => gGo p l e rX14_isSame s m args below meth c D cy B H0 4 0 0 Q 19 [(0, vR (some x0)), (1, vI x1), (2, vI x2), (3, vI q.2)] [] q.1) (fun (r : Int32 × gMem) => Q = gMQ below D cy B H0 args s 0 0 (some (vI r.1)) r.2)) z → gGo p l e rX14_isSame s m args below meth c D cy B H0 4 0 0 Q 19 [(0, vR (some x0)), (1, vI x1), (2, vI x2), (3, vI x3)] [] M := by
  intro M x0 x1 x2 x3 z hf hK
  unfold bb_X14_isSame_19 at hf
  refine g_iload_n X dX14_isSame_19 rfl rfl ?_
  refine g_aload_n X dX14_isSame_20 rfl rfl ?_
  obtain ⟨hT1, hf⟩ := ck_e hf
  refine g_get (ci := 12) (v := vR (mR M x0 6)) 6 X cdX14 i_X14_isSame_X14 (by decide) k_X14_isSame_f23 rfl dX14_isSame_21 rfl hT1 rfl ?_
  refine g_iload_n X dX14_isSame_24 rfl rfl ?_
  obtain ⟨a2, ha2, hf⟩ := dr_e hf
  obtain ⟨hT3, hf⟩ := ck_e hf
  obtain ⟨hg4, hf⟩ := ck_e hf
  refine g_iald X dX14_isSame_25 ha2 hT3 hg4 ?_
  refine g_icmp_ge (tgt := 66) X dX14_isSame_26 (by decide) (fun hc => ?_) (fun hc => ?_)
  · have hf := ife_t hc hf
    refine g_iconst (v := (1 : Int32)) X dX14_isSame_66 (by decide) ?_
    obtain ⟨w5, hw5, hz5⟩ := oI_e hf
    subst hz5
    have hf := hw5
    cases hf
    refine g_eqQ hK ?_
    exact g_zret X hr (gnb (Or.inr rfl)) dX14_isSame_67
  · have hf := ife_f hc hf
    refine g_aload_n X dX14_isSame_29 rfl rfl ?_
    refine g_get (ci := 12) (v := vR (mR M x0 1)) 1 X cdX14 i_X14_isSame_X14 (by decide) k_X14_isSame_f9 rfl dX14_isSame_30 rfl hT1 rfl ?_
    refine g_aload_n X dX14_isSame_33 rfl rfl ?_
    refine g_get (ci := 12) (v := vR (mR M x0 5)) 5 X cdX14 i_X14_isSame_X14 (by decide) k_X14_isSame_f20 rfl dX14_isSame_34 rfl hT1 rfl ?_
    refine g_iload_n X dX14_isSame_37 rfl rfl ?_
    obtain ⟨a6, ha6, hf⟩ := dr_e hf
    obtain ⟨hT7, hf⟩ := ck_e hf
    obtain ⟨hg8, hf⟩ := ck_e hf
    refine g_iald X dX14_isSame_38 ha6 hT7 hg8 ?_
    refine g_iload_n X dX14_isSame_39 rfl rfl ?_
    refine g_iadd X dX14_isSame_40 ?_
    obtain ⟨a9, ha9, hf⟩ := dr_e hf
    obtain ⟨hT10, hf⟩ := ck_e hf
    obtain ⟨hg11, hf⟩ := ck_e hf
    refine g_iald X dX14_isSame_41 ha9 hT10 hg11 ?_
    refine g_aload_n X dX14_isSame_42 rfl rfl ?_
    refine g_get (ci := 12) (v := vR (mR M x0 1)) 1 X cdX14 i_X14_isSame_X14 (by decide) k_X14_isSame_f9 rfl dX14_isSame_43 rfl hT1 rfl ?_
    refine g_aload_n X dX14_isSame_46 rfl rfl ?_
    refine g_get (ci := 12) (v := vR (mR M x0 5)) 5 X cdX14 i_X14_isSame_X14 (by decide) k_X14_isSame_f20 rfl dX14_isSame_47 rfl hT1 rfl ?_
    refine g_iload_n X dX14_isSame_50 rfl rfl ?_
    obtain ⟨hg12, hf⟩ := ck_e hf
    refine g_iald X dX14_isSame_51 ha6 hT7 hg12 ?_
    refine g_iload_n X dX14_isSame_52 rfl rfl ?_
    refine g_iadd X dX14_isSame_53 ?_
    obtain ⟨hg13, hf⟩ := ck_e hf
    refine g_iald X dX14_isSame_54 ha9 hT10 hg13 ?_
    refine g_icmp_eq (tgt := 60) X dX14_isSame_55 (by decide) (fun hc => ?_) (fun hc => ?_)
    · have hf := ife_t hc hf
      refine g_iinc (v := (1 : Int32)) (lv' := [(3, vI (x3 + (1 : Int32))), (0, vR (some x0)), (1, vI x1), (2, vI x2)]) X dX14_isSame_60 rfl (by decide) (by decide) rfl ?_
      refine g_goto (tgt := 19) X dX14_isSame_63 (by decide) ?_
      cases hf
      refine g_sub (lvsub_of _ _ [1, 2, 3, 0] rfl) ?_
      exact hK
    · have hf := ife_f hc hf
      refine g_iconst (v := (0 : Int32)) X dX14_isSame_58 (by decide) ?_
      obtain ⟨w14, hw14, hz14⟩ := oI_e hf
      subst hz14
      have hf := hw14
      cases hf
      refine g_eqQ hK ?_
      exact g_zret X hr (gnb (Or.inl rfl)) dX14_isSame_59
set_option maxHeartbeats 4000000 in
set_option maxRecDepth 100000 in
theorem tl_X14_isSame_19 (X : gX p s m args meth c D cy B (gSt Z B H0) RX14 cX14_isSame wsX14_isSame 4) (hr : meth.sig.returnType = (some .boolean)) {Q : State → Prop} : ∀ (M : gMem) (x0 : Nat) (x1 : Int32) (x2 : Int32) (x3 : Int32) (z : Int32 × gMem), lp_X14_isSame_19 M x0 x1 x2 x3 = some z → (fun (r : Int32 × gMem) => Q = gMQ below D cy B H0 args s 0 0 (some (vI r.1)) r.2) z → gGo p l e rX14_isSame s m args below meth c D cy B H0 4 0 0 Q 19 [(0, vR (some x0)), (1, vI x1), (2, vI x2), (3, vI x3)] [] M := by
  intro M x0 x1 x2 x3 z hf hK
  refine lp_ind (P := (fun (q : gMem × Int32) (z : Int32 × gMem) => (fun (r : Int32 × gMem) => Q = gMQ below D cy B H0 args s 0 0 (some (vI r.1)) r.2) z → gGo p l e rX14_isSame s m args below meth c D cy B H0 4 0 0 Q 19 [(0, vR (some x0)), (1, vI x1), (2, vI x2), (3, vI q.2)] [] q.1)) (fun q z hq => ?_) _ _ hf hK
  intro hK
  obtain ⟨w, hw, hm⟩ := hq
  refine tb_X14_isSame_19 X hr _ _ _ _ _ w hw ?_
  cases w with
  | inl a => exact hm hK
  | inr b => cases hm; exact hK
set_option maxHeartbeats 4000000 in
set_option maxRecDepth 100000 in
theorem t_X14_isSame_0 (X : gX p s m args meth c D cy B (gSt Z B H0) RX14 cX14_isSame wsX14_isSame 4) (hr : meth.sig.returnType = (some .boolean)) {Q : State → Prop} : ∀ (M : gMem) (x0 : Nat) (x1 : Int32) (x2 : Int32) (z : Int32 × gMem), b_X14_isSame_0 M x0 x1 x2 = some z → (fun (r : Int32 × gMem) => Q = gMQ below D cy B H0 args s 0 0 (some (vI r.1)) r.2) z → gGo p l e rX14_isSame s m args below meth c D cy B H0 4 0 0 Q 0 [(0, vR (some x0)), (1, vI x1), (2, vI x2)] [] M := by
  intro M x0 x1 x2 z hf hK
  unfold b_X14_isSame_0 at hf
  refine g_aload_n X dX14_isSame_0 rfl rfl ?_
  obtain ⟨hT15, hf⟩ := ck_e hf
  refine g_get (ci := 12) (v := vR (mR M x0 6)) 6 X cdX14 i_X14_isSame_X14 (by decide) k_X14_isSame_f23 rfl dX14_isSame_1 rfl hT15 rfl ?_
  refine g_iload_n X dX14_isSame_4 rfl rfl ?_
  obtain ⟨a16, ha16, hf⟩ := dr_e hf
  obtain ⟨hT17, hf⟩ := ck_e hf
  obtain ⟨hg18, hf⟩ := ck_e hf
  refine g_iald X dX14_isSame_5 ha16 hT17 hg18 ?_
  refine g_aload_n X dX14_isSame_6 rfl rfl ?_
  refine g_get (ci := 12) (v := vR (mR M x0 6)) 6 X cdX14 i_X14_isSame_X14 (by decide) k_X14_isSame_f23 rfl dX14_isSame_7 rfl hT15 rfl ?_
  refine g_iload_n X dX14_isSame_10 rfl rfl ?_
  obtain ⟨hg19, hf⟩ := ck_e hf
  refine g_iald X dX14_isSame_11 ha16 hT17 hg19 ?_
  refine g_icmp_eq (tgt := 17) X dX14_isSame_12 (by decide) (fun hc => ?_) (fun hc => ?_)
  · have hf := ife_t hc hf
    refine g_iconst (v := (0 : Int32)) X dX14_isSame_17 (by decide) ?_
    refine g_istore_n (lv' := [(3, vI (0 : Int32)), (0, vR (some x0)), (1, vI x1), (2, vI x2)]) X dX14_isSame_18 rfl (by decide) rfl ?_
    refine g_sub (lvsub_of _ _ [1, 2, 3, 0] rfl) ?_
    exact tl_X14_isSame_19 X hr _ _ _ _ _ _ hf hK
  · have hf := ife_f hc hf
    refine g_iconst (v := (0 : Int32)) X dX14_isSame_15 (by decide) ?_
    cases hf
    refine g_eqQ hK ?_
    exact g_zret X hr (gnb (Or.inl rfl)) dX14_isSame_16
set_option maxHeartbeats 4000000 in
set_option maxRecDepth 100000 in
theorem m_X14_isSame (l : Launch) {D : va_G} {cy : Nat → ClassId} {B : Nat} {H0 : Heap} {Z : Nat → Nat} {M M1 : gMem} {x0 : Nat} {x1 : Int32} {x2 : Int32} {r : Int32} (hf : f_X14_isSame M x0 x1 x2 = some (r, M1)) : Met l yX14_isSame wsX14_isSame rX14_isSame (va_Pc (Value.ref x0 :: List.map gv [vI x1, vI x2]) (gPre D cy B H0 (gSt Z B H0) M)) (gQ D cy B H0 (some (vI r)) M1) 0 0 (gA B) := by
  refine Met.ofW (cc := cX14_isSame) (maxL := 4) (ret := (some .boolean)) (by decide) rfl ?_
  intro p e s m args below meth c s₁ Bd hml hv
  obtain ⟨rfl, hW, hKK, hFs⟩ := hv
  have X : gX p s m _ meth c D cy B (gSt Z B H0) RX14 cX14_isSame wsX14_isSame 4 := ⟨Bd.exec, Bd.bytes, atoms_spec (ws := wsX14_isSame) Bd.pre, findClass_of_methodNamed Bd.named, hml, hKK, by rw [hW.1]; exact hW.2.1, Bd.notSynchronized, hFs⟩
  have hr := Bd.returns
  have hl := lv_entry ([.ref x0, .int x1, .int x2]) (n := 4) (Nat.le_of_ble_eq_true rfl)
  show W p l e rX14_isSame s m _ below meth c s.heap [] 0 0 _ (entryFrame m ([.ref x0, .int x1, .int x2] : List Value).toArray 4)
  rw [lg_entry_eq]
  generalize (lg_sl ([.ref x0, .int x1, .int x2]) ++ List.replicate (4 - (lg_sl ([.ref x0, .int x1, .int x2])).length) Slot.unset).toArray = ls at hl ⊢
  have hl : lv_has ls 4 (List.map gq [(0, vR (some x0)), (1, vI x1), (2, vI x2)]) := hl
  exact t_X14_isSame_0 X hr _ _ _ _ _ hf rfl s.heap [] ls hW va_S.rf (lv_has_sub hl (lvsub_of _ _ [0, 1, 2] rfl))
/-! ## TideLotsModel.told(II)I -/
theorem dX14_told_0 : decode cX14_told 0 = .ok (.iconst 0, 1) := by decide +kernel
theorem dX14_told_1 : decode cX14_told 1 = .ok (.istore_n 3, 1) := by decide +kernel
theorem dX14_told_2 : decode cX14_told 2 = .ok (.iconst 0, 1) := by decide +kernel
theorem dX14_told_3 : decode cX14_told 3 = .ok (.istore 4, 2) := by decide +kernel
theorem dX14_told_5 : decode cX14_told 5 = .ok (.iload 4, 2) := by decide +kernel
theorem dX14_told_7 : decode cX14_told 7 = .ok (.iload_n 1, 1) := by decide +kernel
theorem dX14_told_8 : decode cX14_told 8 = .ok (.if_icmp .ge 38, 3) := by decide +kernel
theorem dX14_told_11 : decode cX14_told 11 = .ok (.aload_n 0, 1) := by decide +kernel
theorem dX14_told_12 : decode cX14_told 12 = .ok (.getfield 26, 3) := by decide +kernel
theorem dX14_told_15 : decode cX14_told 15 = .ok (.iload 4, 2) := by decide +kernel
theorem dX14_told_17 : decode cX14_told 17 = .ok (.iaload, 1) := by decide +kernel
theorem dX14_told_18 : decode cX14_told 18 = .ok (.iload_n 2, 1) := by decide +kernel
theorem dX14_told_19 : decode cX14_told 19 = .ok (.if_icmp .eq 6, 3) := by decide +kernel
theorem dX14_told_22 : decode cX14_told 22 = .ok (.goto 18, 3) := by decide +kernel
theorem dX14_told_25 : decode cX14_told 25 = .ok (.aload_n 0, 1) := by decide +kernel
theorem dX14_told_26 : decode cX14_told 26 = .ok (.iload 4, 2) := by decide +kernel
theorem dX14_told_28 : decode cX14_told 28 = .ok (.iload_n 1, 1) := by decide +kernel
theorem dX14_told_29 : decode cX14_told 29 = .ok (.invokevirtual 214, 3) := by decide +kernel
theorem dX14_told_32 : decode cX14_told 32 = .ok (.ifCond .eq 5, 3) := by decide +kernel
theorem dX14_told_35 : decode cX14_told 35 = .ok (.iload_n 3, 1) := by decide +kernel
theorem dX14_told_36 : decode cX14_told 36 = .ok (.ireturn, 1) := by decide +kernel
theorem dX14_told_37 : decode cX14_told 37 = .ok (.iinc 3 1, 3) := by decide +kernel
theorem dX14_told_40 : decode cX14_told 40 = .ok (.iinc 4 1, 3) := by decide +kernel
theorem dX14_told_43 : decode cX14_told 43 = .ok (.goto (-38), 3) := by decide +kernel
theorem dX14_told_46 : decode cX14_told 46 = .ok (.iconst (-1), 1) := by decide +kernel
theorem dX14_told_47 : decode cX14_told 47 = .ok (.ireturn, 1) := by decide +kernel
set_option maxRecDepth 20000 in
theorem ggX14_told_X14_isSame : GoodIn wsX14_told wsX14_isSame := goodIn_r _ [6, 7, 8, 9, 10, 11, 12, 13, 14, 15, 16, 17, 18, 19, 20, 21, 22, 23, 24] (by decide +kernel) (by decide +kernel)
set_option maxRecDepth 20000 in
theorem gX14_told_X14_isSame : GoodIn wsX14_told (wsV RX14 214 RX14 yX14_isSame wsX14_isSame) := goodIn_app (goodIn_of _ (by decide +kernel)) ggX14_told_X14_isSame
theorem k_X14_told_f26 : Cond.fieldLink RX14 26 "TideLotsModel" "role" "[I" ∈ wsX14_told := by decide +kernel
theorem i_X14_told_X14 : ∀ w ∈ u_ws RX14 TX14 15, w ∈ wsX14_told := by decide +kernel
abbrev rX14_told : Room := { frames := 1, cells := 0, slots := 0, locals := 23 }
noncomputable def b_X14_told_40 (M : gMem) (x0 : Nat) (x1 : Int32) (x2 : Int32) (x3 : Int32) (x4 : Int32) : Option ((gMem × Int32 × Int32) ⊕ (Int32 × gMem)) :=
  some (.inl (M, x3, (x4 + (1 : Int32))))
noncomputable def bb_X14_told_5 (M : gMem) (x0 : Nat) (x1 : Int32) (x2 : Int32) (x3 : Int32) (x4 : Int32) : Option ((gMem × Int32 × Int32) ⊕ (Int32 × gMem)) :=
  (if x1 ≤ x4 then oI (some ((-1 : Int32), M)) else ck (mT M x0 = 13) <| dr ((mR M x0 7)) fun a3 => ck (mT M a3 = 20) <| ck (inb x4 (mL M a3)) <| (if (mI M a3 x4.toNatClampNeg) = x2 then bd (f_X14_isSame M x0 x4 x1) fun r6 M6 => (if r6 = 0 then b_X14_told_40 M6 x0 x1 x2 ((x3 + (1 : Int32))) x4 else oI (some (x3, M6))) else b_X14_told_40 M x0 x1 x2 x3 x4))
noncomputable def lp_X14_told_5 (M : gMem) (x0 : Nat) (x1 : Int32) (x2 : Int32) (x3 : Int32) (x4 : Int32) : Option (Int32 × gMem) :=
  lp (fun (q : gMem × Int32 × Int32) => bb_X14_told_5 q.1 x0 x1 x2 q.2.1 q.2.2) (M, x3, x4)
noncomputable def b_X14_told_0 (M : gMem) (x0 : Nat) (x1 : Int32) (x2 : Int32) : Option (Int32 × gMem) :=
  lp_X14_told_5 M x0 x1 x2 ((0 : Int32)) ((0 : Int32))
noncomputable def f_X14_told (M : gMem) (x0 : Nat) (x1 : Int32) (x2 : Int32) : Option (Int32 × gMem) :=
  b_X14_told_0 M x0 x1 x2
set_option maxHeartbeats 4000000 in
set_option maxRecDepth 100000 in
theorem t_X14_told_40 (X : gX p s m args meth c D cy B (gSt Z B H0) RX14 cX14_told wsX14_told 5) (hr : meth.sig.returnType = (some .int)) {Q : State → Prop} : ∀ (M : gMem) (x0 : Nat) (x1 : Int32) (x2 : Int32) (x3 : Int32) (x4 : Int32) (z : (gMem × Int32 × Int32) ⊕ (Int32 × gMem)), b_X14_told_40 M x0 x1 x2 x3 x4 = some z → (Sum.elim (fun (q : gMem × Int32 × Int32) => gGo p l e rX14_told s m args below meth c D cy B H0 5 0 0 Q 5 [(0, vR (some x0)), (1, vI x1), (2, vI x2), (3, vI q.2.1), (4, vI q.2.2)] [] q.1) (fun (r : Int32 × gMem) => Q = gMQ below D cy B H0 args s 0 0 (some (vI r.1)) r.2)) z → gGo p l e rX14_told s m args below meth c D cy B H0 5 0 0 Q 40 [(0, vR (some x0)), (1, vI x1), (2, vI x2), (3, vI x3), (4, vI x4)] [] M := by
  intro M x0 x1 x2 x3 x4 z hf hK
  unfold b_X14_told_40 at hf
  refine g_iinc (v := (1 : Int32)) (lv' := [(4, vI (x4 + (1 : Int32))), (0, vR (some x0)), (1, vI x1), (2, vI x2), (3, vI x3)]) X dX14_told_40 rfl (by decide) (by decide) rfl ?_
  refine g_goto (tgt := 5) X dX14_told_43 (by decide) ?_
  cases hf
  refine g_sub (lvsub_of _ _ [1, 2, 3, 4, 0] rfl) ?_
  exact hK
set_option maxHeartbeats 4000000 in
set_option maxRecDepth 100000 in
theorem tb_X14_told_5 (X : gX p s m args meth c D cy B (gSt Z B H0) RX14 cX14_told wsX14_told 5) (hr : meth.sig.returnType = (some .int)) {Q : State → Prop} : ∀ (M : gMem) (x0 : Nat) (x1 : Int32) (x2 : Int32) (x3 : Int32) (x4 : Int32) (z : (gMem × Int32 × Int32) ⊕ (Int32 × gMem)), bb_X14_told_5 M x0 x1 x2 x3 x4 = some z → (Sum.elim (fun (q : gMem × Int32 × Int32) => gGo p l e rX14_told s m args below meth c D cy B H0 5 0 0 Q 5 [(0, vR (some x0)), (1, vI x1), (2, vI x2), (3, vI q.2.1), (4, vI q.2.2)] [] q.1) (fun (r : Int32 × gMem) => Q = gMQ below D cy B H0 args s 0 0 (some (vI r.1)) r.2)) z → gGo p l e rX14_told s m args below meth c D cy B H0 5 0 0 Q 5 [(0, vR (some x0)), (1, vI x1), (2, vI x2), (3, vI x3), (4, vI x4)] [] M := by
  intro M x0 x1 x2 x3 x4 z hf hK
  unfold bb_X14_told_5 at hf
  refine g_iload X dX14_told_5 rfl ?_
  refine g_iload_n X dX14_told_7 rfl rfl ?_
  refine g_icmp_ge (tgt := 46) X dX14_told_8 (by decide) (fun hc => ?_) (fun hc => ?_)
  · have hf := ife_t hc hf
    refine g_iconst (v := (-1 : Int32)) X dX14_told_46 (by decide) ?_
    obtain ⟨w1, hw1, hz1⟩ := oI_e hf
    subst hz1
    have hf := hw1
    cases hf
    refine g_eqQ hK ?_
    exact g_iret X hr dX14_told_47
  · have hf := ife_f hc hf
    refine g_aload_n X dX14_told_11 rfl rfl ?_
    obtain ⟨hT2, hf⟩ := ck_e hf
    refine g_get (ci := 12) (v := vR (mR M x0 7)) 7 X cdX14 i_X14_told_X14 (by decide) k_X14_told_f26 rfl dX14_told_12 rfl hT2 rfl ?_
    refine g_iload X dX14_told_15 rfl ?_
    obtain ⟨a3, ha3, hf⟩ := dr_e hf
    obtain ⟨hT4, hf⟩ := ck_e hf
    obtain ⟨hg5, hf⟩ := ck_e hf
    refine g_iald X dX14_told_17 ha3 hT4 hg5 ?_
    refine g_iload_n X dX14_told_18 rfl rfl ?_
    refine g_icmp_eq (tgt := 25) X dX14_told_19 (by decide) (fun hc => ?_) (fun hc => ?_)
    · have hf := ife_t hc hf
      refine g_aload_n X dX14_told_25 rfl rfl ?_
      refine g_iload X dX14_told_26 rfl ?_
      refine g_iload_n X dX14_told_28 rfl rfl ?_
      obtain ⟨r6, M6, hq6, hf⟩ := bd_e hf
      refine g_callV (ci := 12) (b := x0) (As := [vI x4, vI x1]) (st := []) (v := some (vI r6)) (M1 := M6) X (m_X14_isSame l hq6) (cwV 2 X.2.2.1 gX14_told_X14_isSame rfl rfl rfl (by decide +kernel) ⟨Nat.le_of_ble_eq_true rfl, Nat.le_of_ble_eq_true rfl⟩) rfl rfl rfl hT2 (by decide) rfl (Nat.le_of_ble_eq_true rfl) dX14_told_29 ⟨by decide, by decide⟩ ?_
      refine g_if_eq (tgt := 37) X dX14_told_32 (by decide) (fun hc => ?_) (fun hc => ?_)
      · have hf := ife_t hc hf
        refine g_iinc (v := (1 : Int32)) (lv' := [(3, vI (x3 + (1 : Int32))), (0, vR (some x0)), (1, vI x1), (2, vI x2), (4, vI x4)]) X dX14_told_37 rfl (by decide) (by decide) rfl ?_
        refine g_sub (lvsub_of _ _ [1, 2, 3, 0, 4] rfl) ?_
        exact t_X14_told_40 X hr _ _ _ _ _ _ _ hf hK
      · have hf := ife_f hc hf
        refine g_iload_n X dX14_told_35 rfl rfl ?_
        obtain ⟨w7, hw7, hz7⟩ := oI_e hf
        subst hz7
        have hf := hw7
        cases hf
        refine g_eqQ hK ?_
        exact g_iret X hr dX14_told_36
    · have hf := ife_f hc hf
      refine g_goto (tgt := 40) X dX14_told_22 (by decide) ?_
      refine g_sub (lvsub_of _ _ [0, 1, 2, 3, 4] rfl) ?_
      exact t_X14_told_40 X hr _ _ _ _ _ _ _ hf hK
set_option maxHeartbeats 4000000 in
set_option maxRecDepth 100000 in
theorem tl_X14_told_5 (X : gX p s m args meth c D cy B (gSt Z B H0) RX14 cX14_told wsX14_told 5) (hr : meth.sig.returnType = (some .int)) {Q : State → Prop} : ∀ (M : gMem) (x0 : Nat) (x1 : Int32) (x2 : Int32) (x3 : Int32) (x4 : Int32) (z : Int32 × gMem), lp_X14_told_5 M x0 x1 x2 x3 x4 = some z → (fun (r : Int32 × gMem) => Q = gMQ below D cy B H0 args s 0 0 (some (vI r.1)) r.2) z → gGo p l e rX14_told s m args below meth c D cy B H0 5 0 0 Q 5 [(0, vR (some x0)), (1, vI x1), (2, vI x2), (3, vI x3), (4, vI x4)] [] M := by
  intro M x0 x1 x2 x3 x4 z hf hK
  refine lp_ind (P := (fun (q : gMem × Int32 × Int32) (z : Int32 × gMem) => (fun (r : Int32 × gMem) => Q = gMQ below D cy B H0 args s 0 0 (some (vI r.1)) r.2) z → gGo p l e rX14_told s m args below meth c D cy B H0 5 0 0 Q 5 [(0, vR (some x0)), (1, vI x1), (2, vI x2), (3, vI q.2.1), (4, vI q.2.2)] [] q.1)) (fun q z hq => ?_) _ _ hf hK
  intro hK
  obtain ⟨w, hw, hm⟩ := hq
  refine tb_X14_told_5 X hr _ _ _ _ _ _ w hw ?_
  cases w with
  | inl a => exact hm hK
  | inr b => cases hm; exact hK
set_option maxHeartbeats 4000000 in
set_option maxRecDepth 100000 in
theorem t_X14_told_0 (X : gX p s m args meth c D cy B (gSt Z B H0) RX14 cX14_told wsX14_told 5) (hr : meth.sig.returnType = (some .int)) {Q : State → Prop} : ∀ (M : gMem) (x0 : Nat) (x1 : Int32) (x2 : Int32) (z : Int32 × gMem), b_X14_told_0 M x0 x1 x2 = some z → (fun (r : Int32 × gMem) => Q = gMQ below D cy B H0 args s 0 0 (some (vI r.1)) r.2) z → gGo p l e rX14_told s m args below meth c D cy B H0 5 0 0 Q 0 [(0, vR (some x0)), (1, vI x1), (2, vI x2)] [] M := by
  intro M x0 x1 x2 z hf hK
  unfold b_X14_told_0 at hf
  refine g_iconst (v := (0 : Int32)) X dX14_told_0 (by decide) ?_
  refine g_istore_n (lv' := [(3, vI (0 : Int32)), (0, vR (some x0)), (1, vI x1), (2, vI x2)]) X dX14_told_1 rfl (by decide) rfl ?_
  refine g_iconst (v := (0 : Int32)) X dX14_told_2 (by decide) ?_
  refine g_istore (lv' := [(4, vI (0 : Int32)), (3, vI (0 : Int32)), (0, vR (some x0)), (1, vI x1), (2, vI x2)]) X dX14_told_3 (by decide) rfl ?_
  refine g_sub (lvsub_of _ _ [2, 3, 4, 1, 0] rfl) ?_
  exact tl_X14_told_5 X hr _ _ _ _ _ _ _ hf hK
set_option maxHeartbeats 4000000 in
set_option maxRecDepth 100000 in
theorem m_X14_told (l : Launch) {D : va_G} {cy : Nat → ClassId} {B : Nat} {H0 : Heap} {Z : Nat → Nat} {M M1 : gMem} {x0 : Nat} {x1 : Int32} {x2 : Int32} {r : Int32} (hf : f_X14_told M x0 x1 x2 = some (r, M1)) : Met l yX14_told wsX14_told rX14_told (va_Pc (Value.ref x0 :: List.map gv [vI x1, vI x2]) (gPre D cy B H0 (gSt Z B H0) M)) (gQ D cy B H0 (some (vI r)) M1) 0 0 (gA B) := by
  refine Met.ofW (cc := cX14_told) (maxL := 5) (ret := (some .int)) (by decide) rfl ?_
  intro p e s m args below meth c s₁ Bd hml hv
  obtain ⟨rfl, hW, hKK, hFs⟩ := hv
  have X : gX p s m _ meth c D cy B (gSt Z B H0) RX14 cX14_told wsX14_told 5 := ⟨Bd.exec, Bd.bytes, atoms_spec (ws := wsX14_told) Bd.pre, findClass_of_methodNamed Bd.named, hml, hKK, by rw [hW.1]; exact hW.2.1, Bd.notSynchronized, hFs⟩
  have hr := Bd.returns
  have hl := lv_entry ([.ref x0, .int x1, .int x2]) (n := 5) (Nat.le_of_ble_eq_true rfl)
  show W p l e rX14_told s m _ below meth c s.heap [] 0 0 _ (entryFrame m ([.ref x0, .int x1, .int x2] : List Value).toArray 5)
  rw [lg_entry_eq]
  generalize (lg_sl ([.ref x0, .int x1, .int x2]) ++ List.replicate (5 - (lg_sl ([.ref x0, .int x1, .int x2])).length) Slot.unset).toArray = ls at hl ⊢
  have hl : lv_has ls 5 (List.map gq [(0, vR (some x0)), (1, vI x1), (2, vI x2)]) := hl
  exact t_X14_told_0 X hr _ _ _ _ _ hf rfl s.heap [] ls hW va_S.rf (lv_has_sub hl (lvsub_of _ _ [0, 1, 2] rfl))
/-! ## TideLotsModel.look(II)I -/
theorem dX14_look_0 : decode cX14_look 0 = .ok (.aload_n 0, 1) := by decide +kernel
theorem dX14_look_1 : decode cX14_look 1 = .ok (.getfield 29, 3) := by decide +kernel
theorem dX14_look_4 : decode cX14_look 4 = .ok (.iload_n 1, 1) := by decide +kernel
theorem dX14_look_5 : decode cX14_look 5 = .ok (.aload_n 0, 1) := by decide +kernel
theorem dX14_look_6 : decode cX14_look 6 = .ok (.iload_n 1, 1) := by decide +kernel
theorem dX14_look_7 : decode cX14_look 7 = .ok (.iload_n 2, 1) := by decide +kernel
theorem dX14_look_8 : decode cX14_look 8 = .ok (.invokevirtual 217, 3) := by decide +kernel
theorem dX14_look_11 : decode cX14_look 11 = .ok (.iastore, 1) := by decide +kernel
theorem dX14_look_12 : decode cX14_look 12 = .ok (.aload_n 0, 1) := by decide +kernel
theorem dX14_look_13 : decode cX14_look 13 = .ok (.getfield 29, 3) := by decide +kernel
theorem dX14_look_16 : decode cX14_look 16 = .ok (.iload_n 1, 1) := by decide +kernel
theorem dX14_look_17 : decode cX14_look 17 = .ok (.iaload, 1) := by decide +kernel
theorem dX14_look_18 : decode cX14_look 18 = .ok (.iconst (-1), 1) := by decide +kernel
theorem dX14_look_19 : decode cX14_look 19 = .ok (.if_icmp .ne 7, 3) := by decide +kernel
theorem dX14_look_22 : decode cX14_look 22 = .ok (.iconst 3, 1) := by decide +kernel
theorem dX14_look_23 : decode cX14_look 23 = .ok (.goto 4, 3) := by decide +kernel
theorem dX14_look_26 : decode cX14_look 26 = .ok (.iconst 0, 1) := by decide +kernel
theorem dX14_look_27 : decode cX14_look 27 = .ok (.ireturn, 1) := by decide +kernel
set_option maxRecDepth 20000 in
theorem ggX14_look_X14_told : GoodIn wsX14_look wsX14_told := goodIn_r _ [6, 7, 8, 9, 10, 5, 11, 12, 13, 14, 15, 16, 17, 18, 19, 20, 21, 22, 23, 24, 25, 26, 27, 28, 29] (by decide +kernel) (by decide +kernel)
set_option maxRecDepth 20000 in
theorem gX14_look_X14_told : GoodIn wsX14_look (wsV RX14 217 RX14 yX14_told wsX14_told) := goodIn_app (goodIn_of _ (by decide +kernel)) ggX14_look_X14_told
theorem k_X14_look_f29 : Cond.fieldLink RX14 29 "TideLotsModel" "meant" "[I" ∈ wsX14_look := by decide +kernel
theorem i_X14_look_X14 : ∀ w ∈ u_ws RX14 TX14 15, w ∈ wsX14_look := by decide +kernel
abbrev rX14_look : Room := { frames := 2, cells := 0, slots := 0, locals := 47 }
noncomputable def b_X14_look_27 (M : gMem) (s0 : Int32) : Option (Int32 × gMem) :=
  some (s0, M)
noncomputable def b_X14_look_0 (M : gMem) (x0 : Nat) (x1 : Int32) (x2 : Int32) : Option (Int32 × gMem) :=
  ck (mT M x0 = 13) <| bd (f_X14_told M x0 x1 x2) fun r2 M2 => dr ((mR M x0 8)) fun a3 => ck (mT M2 a3 = 20) <| ck (inb x1 (mL M2 a3)) <| lw (wI M2 a3 x1.toNatClampNeg r2) fun M6 => ck (mT M6 x0 = 13) <| dr ((mR M6 x0 8)) fun a9 => ck (mT M6 a9 = 20) <| ck (inb x1 (mL M6 a9)) <| (if (mI M6 a9 x1.toNatClampNeg) = (-1 : Int32) then b_X14_look_27 M6 ((3 : Int32)) else b_X14_look_27 M6 ((0 : Int32)))
noncomputable def f_X14_look (M : gMem) (x0 : Nat) (x1 : Int32) (x2 : Int32) : Option (Int32 × gMem) :=
  b_X14_look_0 M x0 x1 x2
set_option maxHeartbeats 4000000 in
set_option maxRecDepth 100000 in
theorem t_X14_look_27 (X : gX p s m args meth c D cy B (gSt Z B H0) RX14 cX14_look wsX14_look 3) (hr : meth.sig.returnType = (some .int)) {Q : State → Prop} : ∀ (M : gMem) (s0 : Int32) (z : Int32 × gMem), b_X14_look_27 M s0 = some z → (fun (r : Int32 × gMem) => Q = gMQ below D cy B H0 args s 0 0 (some (vI r.1)) r.2) z → gGo p l e rX14_look s m args below meth c D cy B H0 3 0 0 Q 27 [] [vI s0] M := by
  intro M s0 z hf hK
  unfold b_X14_look_27 at hf
  cases hf
  refine g_eqQ hK ?_
  exact g_iret X hr dX14_look_27
set_option maxHeartbeats 4000000 in
set_option maxRecDepth 100000 in
theorem t_X14_look_0 (X : gX p s m args meth c D cy B (gSt Z B H0) RX14 cX14_look wsX14_look 3) (hr : meth.sig.returnType = (some .int)) {Q : State → Prop} : ∀ (M : gMem) (x0 : Nat) (x1 : Int32) (x2 : Int32) (z : Int32 × gMem), b_X14_look_0 M x0 x1 x2 = some z → (fun (r : Int32 × gMem) => Q = gMQ below D cy B H0 args s 0 0 (some (vI r.1)) r.2) z → gGo p l e rX14_look s m args below meth c D cy B H0 3 0 0 Q 0 [(0, vR (some x0)), (1, vI x1), (2, vI x2)] [] M := by
  intro M x0 x1 x2 z hf hK
  unfold b_X14_look_0 at hf
  refine g_aload_n X dX14_look_0 rfl rfl ?_
  obtain ⟨hT1, hf⟩ := ck_e hf
  refine g_get (ci := 12) (v := vR (mR M x0 8)) 8 X cdX14 i_X14_look_X14 (by decide) k_X14_look_f29 rfl dX14_look_1 rfl hT1 rfl ?_
  refine g_iload_n X dX14_look_4 rfl rfl ?_
  refine g_aload_n X dX14_look_5 rfl rfl ?_
  refine g_iload_n X dX14_look_6 rfl rfl ?_
  refine g_iload_n X dX14_look_7 rfl rfl ?_
  obtain ⟨r2, M2, hq2, hf⟩ := bd_e hf
  refine g_callV (ci := 12) (b := x0) (As := [vI x1, vI x2]) (st := [vI x1, vR (mR M x0 8)]) (v := some (vI r2)) (M1 := M2) X (m_X14_told l hq2) (cwV 2 X.2.2.1 gX14_look_X14_told rfl rfl rfl (by decide +kernel) ⟨Nat.le_of_ble_eq_true rfl, Nat.le_of_ble_eq_true rfl⟩) rfl rfl rfl hT1 (by decide) rfl (Nat.le_of_ble_eq_true rfl) dX14_look_8 ⟨by decide, by decide⟩ ?_
  obtain ⟨a3, ha3, hf⟩ := dr_e hf
  obtain ⟨hT4, hf⟩ := ck_e hf
  obtain ⟨hg5, hf⟩ := ck_e hf
  refine g_iast X dX14_look_11 ha3 hT4 hg5 ?_
  obtain ⟨M6, hM6, hf⟩ := lw_e hf
  rw [← hM6]
  have hT7 : mT M6 a3 = 20 := by rw [hM6]; exact hT4
  refine g_aload_n X dX14_look_12 rfl rfl ?_
  obtain ⟨hT8, hf⟩ := ck_e hf
  refine g_get (ci := 12) (v := vR (mR M6 x0 8)) 8 X cdX14 i_X14_look_X14 (by decide) k_X14_look_f29 rfl dX14_look_13 rfl hT8 rfl ?_
  refine g_iload_n X dX14_look_16 rfl rfl ?_
  obtain ⟨a9, ha9, hf⟩ := dr_e hf
  obtain ⟨hT10, hf⟩ := ck_e hf
  obtain ⟨hg11, hf⟩ := ck_e hf
  refine g_iald X dX14_look_17 ha9 hT10 hg11 ?_
  refine g_iconst (v := (-1 : Int32)) X dX14_look_18 (by decide) ?_
  refine g_icmp_ne (tgt := 26) X dX14_look_19 (by decide) (fun hc => ?_) (fun hc => ?_)
  · have hf := ife_f hc hf
    refine g_iconst (v := (0 : Int32)) X dX14_look_26 (by decide) ?_
    refine g_sub (lvsub_of _ _ [] rfl) ?_
    exact t_X14_look_27 X hr _ _ _ hf hK
  · have hf := ife_t hc hf
    refine g_iconst (v := (3 : Int32)) X dX14_look_22 (by decide) ?_
    refine g_goto (tgt := 27) X dX14_look_23 (by decide) ?_
    refine g_sub (lvsub_of _ _ [] rfl) ?_
    exact t_X14_look_27 X hr _ _ _ hf hK
set_option maxHeartbeats 4000000 in
set_option maxRecDepth 100000 in
theorem m_X14_look (l : Launch) {D : va_G} {cy : Nat → ClassId} {B : Nat} {H0 : Heap} {Z : Nat → Nat} {M M1 : gMem} {x0 : Nat} {x1 : Int32} {x2 : Int32} {r : Int32} (hf : f_X14_look M x0 x1 x2 = some (r, M1)) : Met l yX14_look wsX14_look rX14_look (va_Pc (Value.ref x0 :: List.map gv [vI x1, vI x2]) (gPre D cy B H0 (gSt Z B H0) M)) (gQ D cy B H0 (some (vI r)) M1) 0 0 (gA B) := by
  refine Met.ofW (cc := cX14_look) (maxL := 3) (ret := (some .int)) (by decide) rfl ?_
  intro p e s m args below meth c s₁ Bd hml hv
  obtain ⟨rfl, hW, hKK, hFs⟩ := hv
  have X : gX p s m _ meth c D cy B (gSt Z B H0) RX14 cX14_look wsX14_look 3 := ⟨Bd.exec, Bd.bytes, atoms_spec (ws := wsX14_look) Bd.pre, findClass_of_methodNamed Bd.named, hml, hKK, by rw [hW.1]; exact hW.2.1, Bd.notSynchronized, hFs⟩
  have hr := Bd.returns
  have hl := lv_entry ([.ref x0, .int x1, .int x2]) (n := 3) (Nat.le_of_ble_eq_true rfl)
  show W p l e rX14_look s m _ below meth c s.heap [] 0 0 _ (entryFrame m ([.ref x0, .int x1, .int x2] : List Value).toArray 3)
  rw [lg_entry_eq]
  generalize (lg_sl ([.ref x0, .int x1, .int x2]) ++ List.replicate (3 - (lg_sl ([.ref x0, .int x1, .int x2])).length) Slot.unset).toArray = ls at hl ⊢
  have hl : lv_has ls 3 (List.map gq [(0, vR (some x0)), (1, vI x1), (2, vI x2)]) := hl
  exact t_X14_look_0 X hr _ _ _ _ _ hf rfl s.heap [] ls hW va_S.rf (lv_has_sub hl (lvsub_of _ _ [0, 1, 2] rfl))
/-! ## TideLotsModel.inRange(III)I -/
theorem dX14_inRange_0 : decode cX14_inRange 0 = .ok (.aload_n 0, 1) := by decide +kernel
theorem dX14_inRange_1 : decode cX14_inRange 1 = .ok (.iload_n 1, 1) := by decide +kernel
theorem dX14_inRange_2 : decode cX14_inRange 2 = .ok (.invokevirtual 211, 3) := by decide +kernel
theorem dX14_inRange_5 : decode cX14_inRange 5 = .ok (.iload_n 2, 1) := by decide +kernel
theorem dX14_inRange_6 : decode cX14_inRange 6 = .ok (.iload_n 3, 1) := by decide +kernel
theorem dX14_inRange_7 : decode cX14_inRange 7 = .ok (.invokestatic 63, 3) := by decide +kernel
theorem dX14_inRange_10 : decode cX14_inRange 10 = .ok (.ifCond .eq 7, 3) := by decide +kernel
theorem dX14_inRange_13 : decode cX14_inRange 13 = .ok (.iconst 0, 1) := by decide +kernel
theorem dX14_inRange_14 : decode cX14_inRange 14 = .ok (.goto 4, 3) := by decide +kernel
theorem dX14_inRange_17 : decode cX14_inRange 17 = .ok (.iconst 5, 1) := by decide +kernel
theorem dX14_inRange_18 : decode cX14_inRange 18 = .ok (.ireturn, 1) := by decide +kernel
set_option maxRecDepth 20000 in
theorem ggX14_inRange_X14_numberAt : GoodIn wsX14_inRange wsX14_numberAt := goodIn_r _ [5, 6, 7, 8, 12, 13, 14, 15, 16, 17, 18, 19, 20, 21, 22, 23, 24, 25, 26] (by decide +kernel) (by decide +kernel)
set_option maxRecDepth 20000 in
theorem gX14_inRange_X14_numberAt : GoodIn wsX14_inRange (wsV RX14 211 RX14 yX14_numberAt wsX14_numberAt) := goodIn_app (goodIn_of _ (by decide +kernel)) ggX14_inRange_X14_numberAt
set_option maxRecDepth 20000 in
theorem ggX14_inRange_X14_isIn : GoodIn wsX14_inRange wsX14_isIn := goodIn_r _ [11] (by decide +kernel) (by decide +kernel)
set_option maxRecDepth 20000 in
theorem gX14_inRange_X14_isIn : GoodIn wsX14_inRange (va_wsS RX14 63 yX14_isIn wsX14_isIn) := goodIn_app (goodIn_of _ (by decide +kernel)) ggX14_inRange_X14_isIn
abbrev rX14_inRange : Room := { frames := 1, cells := 0, slots := 0, locals := 23 }
noncomputable def b_X14_inRange_18 (M : gMem) (s0 : Int32) : Option (Int32 × gMem) :=
  some (s0, M)
noncomputable def b_X14_inRange_0 (M : gMem) (x0 : Nat) (x1 : Int32) (x2 : Int32) (x3 : Int32) : Option (Int32 × gMem) :=
  ck (mT M x0 = 13) <| bd (f_X14_numberAt M x0 x1) fun r1 M1 => bd (f_X14_isIn M1 r1 x2 x3) fun r3 M3 => (if r3 = 0 then b_X14_inRange_18 M3 ((5 : Int32)) else b_X14_inRange_18 M3 ((0 : Int32)))
noncomputable def f_X14_inRange (M : gMem) (x0 : Nat) (x1 : Int32) (x2 : Int32) (x3 : Int32) : Option (Int32 × gMem) :=
  b_X14_inRange_0 M x0 x1 x2 x3
set_option maxHeartbeats 4000000 in
set_option maxRecDepth 100000 in
theorem t_X14_inRange_18 (X : gX p s m args meth c D cy B (gSt Z B H0) RX14 cX14_inRange wsX14_inRange 4) (hr : meth.sig.returnType = (some .int)) {Q : State → Prop} : ∀ (M : gMem) (s0 : Int32) (z : Int32 × gMem), b_X14_inRange_18 M s0 = some z → (fun (r : Int32 × gMem) => Q = gMQ below D cy B H0 args s 0 0 (some (vI r.1)) r.2) z → gGo p l e rX14_inRange s m args below meth c D cy B H0 4 0 0 Q 18 [] [vI s0] M := by
  intro M s0 z hf hK
  unfold b_X14_inRange_18 at hf
  cases hf
  refine g_eqQ hK ?_
  exact g_iret X hr dX14_inRange_18
set_option maxHeartbeats 4000000 in
set_option maxRecDepth 100000 in
theorem t_X14_inRange_0 (X : gX p s m args meth c D cy B (gSt Z B H0) RX14 cX14_inRange wsX14_inRange 4) (hr : meth.sig.returnType = (some .int)) {Q : State → Prop} : ∀ (M : gMem) (x0 : Nat) (x1 : Int32) (x2 : Int32) (x3 : Int32) (z : Int32 × gMem), b_X14_inRange_0 M x0 x1 x2 x3 = some z → (fun (r : Int32 × gMem) => Q = gMQ below D cy B H0 args s 0 0 (some (vI r.1)) r.2) z → gGo p l e rX14_inRange s m args below meth c D cy B H0 4 0 0 Q 0 [(0, vR (some x0)), (1, vI x1), (2, vI x2), (3, vI x3)] [] M := by
  intro M x0 x1 x2 x3 z hf hK
  unfold b_X14_inRange_0 at hf
  refine g_aload_n X dX14_inRange_0 rfl rfl ?_
  refine g_iload_n X dX14_inRange_1 rfl rfl ?_
  obtain ⟨hT2, hf⟩ := ck_e hf
  obtain ⟨r1, M1, hq1, hf⟩ := bd_e hf
  refine g_callV (ci := 12) (b := x0) (As := [vI x1]) (st := []) (v := some (vI r1)) (M1 := M1) X (m_X14_numberAt l hq1) (cwV 1 X.2.2.1 gX14_inRange_X14_numberAt rfl rfl rfl (by decide +kernel) ⟨Nat.le_of_ble_eq_true rfl, Nat.le_of_ble_eq_true rfl⟩) rfl rfl rfl hT2 (by decide) rfl (Nat.le_of_ble_eq_true rfl) dX14_inRange_2 ⟨by decide, by decide⟩ ?_
  refine g_iload_n X dX14_inRange_5 rfl rfl ?_
  refine g_iload_n X dX14_inRange_6 rfl rfl ?_
  obtain ⟨r3, M3, hq3, hf⟩ := bd_e hf
  refine g_callS (As := [vI r1, vI x2, vI x3]) (st := []) (v := some (vI r3)) (M1 := M3) X (m_X14_isIn l hq3) (va_cwS 3 X.2.2.1 gX14_inRange_X14_isIn rfl rfl rfl (by decide +kernel) ⟨Nat.le_of_ble_eq_true rfl, Nat.le_of_ble_eq_true rfl⟩) rfl rfl (Nat.le_of_ble_eq_true rfl) dX14_inRange_7 ⟨by decide, by decide⟩ ?_
  refine g_if_eq (tgt := 17) X dX14_inRange_10 (by decide) (fun hc => ?_) (fun hc => ?_)
  · have hf := ife_t hc hf
    refine g_iconst (v := (5 : Int32)) X dX14_inRange_17 (by decide) ?_
    refine g_sub (lvsub_of _ _ [] rfl) ?_
    exact t_X14_inRange_18 X hr _ _ _ hf hK
  · have hf := ife_f hc hf
    refine g_iconst (v := (0 : Int32)) X dX14_inRange_13 (by decide) ?_
    refine g_goto (tgt := 18) X dX14_inRange_14 (by decide) ?_
    refine g_sub (lvsub_of _ _ [] rfl) ?_
    exact t_X14_inRange_18 X hr _ _ _ hf hK
set_option maxHeartbeats 4000000 in
set_option maxRecDepth 100000 in
theorem m_X14_inRange (l : Launch) {D : va_G} {cy : Nat → ClassId} {B : Nat} {H0 : Heap} {Z : Nat → Nat} {M M1 : gMem} {x0 : Nat} {x1 : Int32} {x2 : Int32} {x3 : Int32} {r : Int32} (hf : f_X14_inRange M x0 x1 x2 x3 = some (r, M1)) : Met l yX14_inRange wsX14_inRange rX14_inRange (va_Pc (Value.ref x0 :: List.map gv [vI x1, vI x2, vI x3]) (gPre D cy B H0 (gSt Z B H0) M)) (gQ D cy B H0 (some (vI r)) M1) 0 0 (gA B) := by
  refine Met.ofW (cc := cX14_inRange) (maxL := 4) (ret := (some .int)) (by decide) rfl ?_
  intro p e s m args below meth c s₁ Bd hml hv
  obtain ⟨rfl, hW, hKK, hFs⟩ := hv
  have X : gX p s m _ meth c D cy B (gSt Z B H0) RX14 cX14_inRange wsX14_inRange 4 := ⟨Bd.exec, Bd.bytes, atoms_spec (ws := wsX14_inRange) Bd.pre, findClass_of_methodNamed Bd.named, hml, hKK, by rw [hW.1]; exact hW.2.1, Bd.notSynchronized, hFs⟩
  have hr := Bd.returns
  have hl := lv_entry ([.ref x0, .int x1, .int x2, .int x3]) (n := 4) (Nat.le_of_ble_eq_true rfl)
  show W p l e rX14_inRange s m _ below meth c s.heap [] 0 0 _ (entryFrame m ([.ref x0, .int x1, .int x2, .int x3] : List Value).toArray 4)
  rw [lg_entry_eq]
  generalize (lg_sl ([.ref x0, .int x1, .int x2, .int x3]) ++ List.replicate (4 - (lg_sl ([.ref x0, .int x1, .int x2, .int x3])).length) Slot.unset).toArray = ls at hl ⊢
  have hl : lv_has ls 4 (List.map gq [(0, vR (some x0)), (1, vI x1), (2, vI x2), (3, vI x3)]) := hl
  exact t_X14_inRange_0 X hr _ _ _ _ _ _ hf rfl s.heap [] ls hW va_S.rf (lv_has_sub hl (lvsub_of _ _ [0, 1, 2, 3] rfl))
/-! ## TideLotsModel.member(I)I -/
theorem dX14_member_0 : decode cX14_member 0 = .ok (.aload_n 0, 1) := by decide +kernel
theorem dX14_member_1 : decode cX14_member 1 = .ok (.getfield 39, 3) := by decide +kernel
theorem dX14_member_4 : decode cX14_member 4 = .ok (.astore_n 2, 1) := by decide +kernel
theorem dX14_member_5 : decode cX14_member 5 = .ok (.aload_n 2, 1) := by decide +kernel
theorem dX14_member_6 : decode cX14_member 6 = .ok (.getfield 222, 3) := by decide +kernel
theorem dX14_member_9 : decode cX14_member 9 = .ok (.iconst 1, 1) := by decide +kernel
theorem dX14_member_10 : decode cX14_member 10 = .ok (.isub, 1) := by decide +kernel
theorem dX14_member_11 : decode cX14_member 11 = .ok (.istore_n 3, 1) := by decide +kernel
theorem dX14_member_12 : decode cX14_member 12 = .ok (.iconst 0, 1) := by decide +kernel
theorem dX14_member_13 : decode cX14_member 13 = .ok (.istore 4, 2) := by decide +kernel
theorem dX14_member_15 : decode cX14_member 15 = .ok (.iload 4, 2) := by decide +kernel
theorem dX14_member_17 : decode cX14_member 17 = .ok (.aload_n 2, 1) := by decide +kernel
theorem dX14_member_18 : decode cX14_member 18 = .ok (.getfield 262, 3) := by decide +kernel
theorem dX14_member_21 : decode cX14_member 21 = .ok (.iload_n 3, 1) := by decide +kernel
theorem dX14_member_22 : decode cX14_member 22 = .ok (.iaload, 1) := by decide +kernel
theorem dX14_member_23 : decode cX14_member 23 = .ok (.if_icmp .ge 28, 3) := by decide +kernel
theorem dX14_member_26 : decode cX14_member 26 = .ok (.aload_n 2, 1) := by decide +kernel
theorem dX14_member_27 : decode cX14_member 27 = .ok (.getfield 265, 3) := by decide +kernel
theorem dX14_member_30 : decode cX14_member 30 = .ok (.bipush 8, 2) := by decide +kernel
theorem dX14_member_32 : decode cX14_member 32 = .ok (.iload_n 3, 1) := by decide +kernel
theorem dX14_member_33 : decode cX14_member 33 = .ok (.imul, 1) := by decide +kernel
theorem dX14_member_34 : decode cX14_member 34 = .ok (.iload 4, 2) := by decide +kernel
theorem dX14_member_36 : decode cX14_member 36 = .ok (.iadd, 1) := by decide +kernel
theorem dX14_member_37 : decode cX14_member 37 = .ok (.iaload, 1) := by decide +kernel
theorem dX14_member_38 : decode cX14_member 38 = .ok (.iload_n 1, 1) := by decide +kernel
theorem dX14_member_39 : decode cX14_member 39 = .ok (.if_icmp .ne 6, 3) := by decide +kernel
theorem dX14_member_42 : decode cX14_member 42 = .ok (.bipush 6, 2) := by decide +kernel
theorem dX14_member_44 : decode cX14_member 44 = .ok (.ireturn, 1) := by decide +kernel
theorem dX14_member_45 : decode cX14_member 45 = .ok (.iinc 4 1, 3) := by decide +kernel
theorem dX14_member_48 : decode cX14_member 48 = .ok (.goto (-33), 3) := by decide +kernel
theorem dX14_member_51 : decode cX14_member 51 = .ok (.aload_n 2, 1) := by decide +kernel
theorem dX14_member_52 : decode cX14_member 52 = .ok (.getfield 265, 3) := by decide +kernel
theorem dX14_member_55 : decode cX14_member 55 = .ok (.bipush 8, 2) := by decide +kernel
theorem dX14_member_57 : decode cX14_member 57 = .ok (.iload_n 3, 1) := by decide +kernel
theorem dX14_member_58 : decode cX14_member 58 = .ok (.imul, 1) := by decide +kernel
theorem dX14_member_59 : decode cX14_member 59 = .ok (.aload_n 2, 1) := by decide +kernel
theorem dX14_member_60 : decode cX14_member 60 = .ok (.getfield 262, 3) := by decide +kernel
theorem dX14_member_63 : decode cX14_member 63 = .ok (.iload_n 3, 1) := by decide +kernel
theorem dX14_member_64 : decode cX14_member 64 = .ok (.iaload, 1) := by decide +kernel
theorem dX14_member_65 : decode cX14_member 65 = .ok (.iadd, 1) := by decide +kernel
theorem dX14_member_66 : decode cX14_member 66 = .ok (.iload_n 1, 1) := by decide +kernel
theorem dX14_member_67 : decode cX14_member 67 = .ok (.iastore, 1) := by decide +kernel
theorem dX14_member_68 : decode cX14_member 68 = .ok (.aload_n 2, 1) := by decide +kernel
theorem dX14_member_69 : decode cX14_member 69 = .ok (.getfield 262, 3) := by decide +kernel
theorem dX14_member_72 : decode cX14_member 72 = .ok (.iload_n 3, 1) := by decide +kernel
theorem dX14_member_73 : decode cX14_member 73 = .ok (.dup2, 1) := by decide +kernel
theorem dX14_member_74 : decode cX14_member 74 = .ok (.iaload, 1) := by decide +kernel
theorem dX14_member_75 : decode cX14_member 75 = .ok (.iconst 1, 1) := by decide +kernel
theorem dX14_member_76 : decode cX14_member 76 = .ok (.iadd, 1) := by decide +kernel
theorem dX14_member_77 : decode cX14_member 77 = .ok (.iastore, 1) := by decide +kernel
theorem dX14_member_78 : decode cX14_member 78 = .ok (.iconst 0, 1) := by decide +kernel
theorem dX14_member_79 : decode cX14_member 79 = .ok (.ireturn, 1) := by decide +kernel
theorem kn_X14_262 : Cond.fieldLinkNest "TideLotsModel" (262 : Nat) "TideLotsModel$Told" "members" "[I" "TideLotsModel" ∈ gNs := by decide +kernel
theorem i_X14_member_X13 : ∀ w ∈ u_ws RX13 TX13 25, w ∈ wsX14_member := by decide +kernel
theorem kn_X14_265 : Cond.fieldLinkNest "TideLotsModel" (265 : Nat) "TideLotsModel$Told" "member" "[I" "TideLotsModel" ∈ gNs := by decide +kernel
theorem k_X14_member_f39 : Cond.fieldLink RX14 39 "TideLotsModel" "reading" "LTideLotsModel$Told;" ∈ wsX14_member := by decide +kernel
theorem i_X14_member_X14 : ∀ w ∈ u_ws RX14 TX14 15, w ∈ wsX14_member := by decide +kernel
theorem kn_X14_222 : Cond.fieldLinkNest "TideLotsModel" (222 : Nat) "TideLotsModel$Told" "pacts" "I" "TideLotsModel" ∈ gNs := by decide +kernel
abbrev rX14_member : Room := { frames := 0, cells := 0, slots := 0, locals := 0 }
noncomputable def bb_X14_member_15 (M : gMem) (x1 : Int32) (x2 : Option Nat) (x3 : Int32) (x4 : Int32) : Option ((gMem × Int32) ⊕ (Int32 × gMem)) :=
  dr x2 fun a1 => ck (mT M a1 = 12) <| dr ((mR M a1 13)) fun a3 => ck (mT M a3 = 20) <| ck (inb x3 (mL M a3)) <| (if (mI M a3 x3.toNatClampNeg) ≤ x4 then ck (inb x3 (mL M a3)) <| dr ((mR M a1 14)) fun a7 => ck (mT M a7 = 20) <| ck (inb (((8 : Int32) * x3) + (mI M a3 x3.toNatClampNeg)) (mL M a7)) <| lw (wI M a7 ((((8 : Int32) * x3) + (mI M a3 x3.toNatClampNeg))).toNatClampNeg x1) fun M10 => dr ((mR M10 a1 13)) fun a14 => ck (mT M10 a14 = 20) <| ck (inb x3 (mL M10 a14)) <| ck (inb x3 (mL M10 a14)) <| lw (wI M10 a14 x3.toNatClampNeg (((mI M10 a14 x3.toNatClampNeg) + (1 : Int32)))) fun M18 => oI (some ((0 : Int32), M18)) else dr ((mR M a1 14)) fun a24 => ck (mT M a24 = 20) <| ck (inb (((8 : Int32) * x3) + x4) (mL M a24)) <| (if (mI M a24 ((((8 : Int32) * x3) + x4)).toNatClampNeg) = x1 then oI (some ((6 : Int32), M)) else some (.inl (M, (x4 + (1 : Int32))))))
noncomputable def lp_X14_member_15 (M : gMem) (x1 : Int32) (x2 : Option Nat) (x3 : Int32) (x4 : Int32) : Option (Int32 × gMem) :=
  lp (fun (q : gMem × Int32) => bb_X14_member_15 q.1 x1 x2 x3 q.2) (M, x4)
noncomputable def b_X14_member_0 (M : gMem) (x0 : Nat) (x1 : Int32) : Option (Int32 × gMem) :=
  ck (mT M x0 = 13) <| dr ((mR M x0 12)) fun a29 => ck (mT M a29 = 12) <| lp_X14_member_15 M x1 ((mR M x0 12)) (((mI M a29 11) - (1 : Int32))) ((0 : Int32))
noncomputable def f_X14_member (M : gMem) (x0 : Nat) (x1 : Int32) : Option (Int32 × gMem) :=
  b_X14_member_0 M x0 x1
set_option maxHeartbeats 4000000 in
set_option maxRecDepth 100000 in
theorem tb_X14_member_15 (X : gX p s m args meth c D cy B (gSt Z B H0) RX14 cX14_member wsX14_member 5) (hr : meth.sig.returnType = (some .int)) {Q : State → Prop} : ∀ (M : gMem) (x1 : Int32) (x2 : Option Nat) (x3 : Int32) (x4 : Int32) (z : (gMem × Int32) ⊕ (Int32 × gMem)), bb_X14_member_15 M x1 x2 x3 x4 = some z → (Sum.elim (fun (q : gMem × Int32) => gGo p l e rX14_member s m args below meth c D cy B H0 5 0 0 Q 15 [(1, vI x1), (2, vR x2), (3, vI x3), (4, vI q.2)] [] q.1) (fun (r : Int32 × gMem) => Q = gMQ below D cy B H0 args s 0 0 (some (vI r.1)) r.2)) z → gGo p l e rX14_member s m args below meth c D cy B H0 5 0 0 Q 15 [(1, vI x1), (2, vR x2), (3, vI x3), (4, vI x4)] [] M := by
  intro M x1 x2 x3 x4 z hf hK
  unfold bb_X14_member_15 at hf
  refine g_iload X dX14_member_15 rfl ?_
  refine g_aload_n X dX14_member_17 rfl rfl ?_
  obtain ⟨a1, ha1, hf⟩ := dr_e hf
  obtain ⟨hT2, hf⟩ := ck_e hf
  refine g_getN (ci := 11) (w := vR (mR M a1 13)) 13 X cdX13 i_X14_member_X13 (by decide) (gNw X _ kn_X14_262) rfl dX14_member_18 ha1 hT2 rfl ?_
  refine g_iload_n X dX14_member_21 rfl rfl ?_
  obtain ⟨a3, ha3, hf⟩ := dr_e hf
  obtain ⟨hT4, hf⟩ := ck_e hf
  obtain ⟨hg5, hf⟩ := ck_e hf
  refine g_iald X dX14_member_22 ha3 hT4 hg5 ?_
  refine g_icmp_ge (tgt := 51) X dX14_member_23 (by decide) (fun hc => ?_) (fun hc => ?_)
  · have hf := ife_t hc hf
    refine g_aload_n X dX14_member_51 rfl rfl ?_
    refine g_getN (ci := 11) (w := vR (mR M a1 14)) 14 X cdX13 i_X14_member_X13 (by decide) (gNw X _ kn_X14_265) rfl dX14_member_52 ha1 hT2 rfl ?_
    refine g_bipush (v := (8 : Int32)) X dX14_member_55 (by decide) ?_
    refine g_iload_n X dX14_member_57 rfl rfl ?_
    refine g_imul X dX14_member_58 ?_
    refine g_aload_n X dX14_member_59 rfl rfl ?_
    refine g_getN (ci := 11) (w := vR (mR M a1 13)) 13 X cdX13 i_X14_member_X13 (by decide) (gNw X _ kn_X14_262) rfl dX14_member_60 ha1 hT2 rfl ?_
    refine g_iload_n X dX14_member_63 rfl rfl ?_
    obtain ⟨hg6, hf⟩ := ck_e hf
    refine g_iald X dX14_member_64 ha3 hT4 hg6 ?_
    refine g_iadd X dX14_member_65 ?_
    refine g_iload_n X dX14_member_66 rfl rfl ?_
    obtain ⟨a7, ha7, hf⟩ := dr_e hf
    obtain ⟨hT8, hf⟩ := ck_e hf
    obtain ⟨hg9, hf⟩ := ck_e hf
    refine g_iast X dX14_member_67 ha7 hT8 hg9 ?_
    obtain ⟨M10, hM10, hf⟩ := lw_e hf
    rw [← hM10]
    have hT11 : mT M10 a1 = 12 := by rw [hM10]; exact hT2
    have hT12 : mT M10 a3 = 20 := by rw [hM10]; exact hT4
    have hT13 : mT M10 a7 = 20 := by rw [hM10]; exact hT8
    refine g_aload_n X dX14_member_68 rfl rfl ?_
    refine g_getN (ci := 11) (w := vR (mR M10 a1 13)) 13 X cdX13 i_X14_member_X13 (by decide) (gNw X _ kn_X14_262) rfl dX14_member_69 ha1 hT11 rfl ?_
    refine g_iload_n X dX14_member_72 rfl rfl ?_
    refine g_dup2 X dX14_member_73 rfl rfl ?_
    obtain ⟨a14, ha14, hf⟩ := dr_e hf
    obtain ⟨hT15, hf⟩ := ck_e hf
    obtain ⟨hg16, hf⟩ := ck_e hf
    refine g_iald X dX14_member_74 ha14 hT15 hg16 ?_
    refine g_iconst (v := (1 : Int32)) X dX14_member_75 (by decide) ?_
    refine g_iadd X dX14_member_76 ?_
    obtain ⟨hg17, hf⟩ := ck_e hf
    refine g_iast X dX14_member_77 ha14 hT15 hg17 ?_
    obtain ⟨M18, hM18, hf⟩ := lw_e hf
    rw [← hM18]
    have hT19 : mT M18 a1 = 12 := by rw [hM18]; exact hT11
    have hT20 : mT M18 a3 = 20 := by rw [hM18]; exact hT12
    have hT21 : mT M18 a7 = 20 := by rw [hM18]; exact hT13
    have hT22 : mT M18 a14 = 20 := by rw [hM18]; exact hT15
    refine g_iconst (v := (0 : Int32)) X dX14_member_78 (by decide) ?_
    obtain ⟨w23, hw23, hz23⟩ := oI_e hf
    subst hz23
    have hf := hw23
    cases hf
    refine g_eqQ hK ?_
    exact g_iret X hr dX14_member_79
  · have hf := ife_f hc hf
    refine g_aload_n X dX14_member_26 rfl rfl ?_
    refine g_getN (ci := 11) (w := vR (mR M a1 14)) 14 X cdX13 i_X14_member_X13 (by decide) (gNw X _ kn_X14_265) rfl dX14_member_27 ha1 hT2 rfl ?_
    refine g_bipush (v := (8 : Int32)) X dX14_member_30 (by decide) ?_
    refine g_iload_n X dX14_member_32 rfl rfl ?_
    refine g_imul X dX14_member_33 ?_
    refine g_iload X dX14_member_34 rfl ?_
    refine g_iadd X dX14_member_36 ?_
    obtain ⟨a24, ha24, hf⟩ := dr_e hf
    obtain ⟨hT25, hf⟩ := ck_e hf
    obtain ⟨hg26, hf⟩ := ck_e hf
    refine g_iald X dX14_member_37 ha24 hT25 hg26 ?_
    refine g_iload_n X dX14_member_38 rfl rfl ?_
    refine g_icmp_ne (tgt := 45) X dX14_member_39 (by decide) (fun hc => ?_) (fun hc => ?_)
    · have hf := ife_f hc hf
      refine g_iinc (v := (1 : Int32)) (lv' := [(4, vI (x4 + (1 : Int32))), (1, vI x1), (2, vR x2), (3, vI x3)]) X dX14_member_45 rfl (by decide) (by decide) rfl ?_
      refine g_goto (tgt := 15) X dX14_member_48 (by decide) ?_
      cases hf
      refine g_sub (lvsub_of _ _ [1, 2, 3, 0] rfl) ?_
      exact hK
    · have hf := ife_t hc hf
      refine g_bipush (v := (6 : Int32)) X dX14_member_42 (by decide) ?_
      obtain ⟨w27, hw27, hz27⟩ := oI_e hf
      subst hz27
      have hf := hw27
      cases hf
      refine g_eqQ hK ?_
      exact g_iret X hr dX14_member_44
set_option maxHeartbeats 4000000 in
set_option maxRecDepth 100000 in
theorem tl_X14_member_15 (X : gX p s m args meth c D cy B (gSt Z B H0) RX14 cX14_member wsX14_member 5) (hr : meth.sig.returnType = (some .int)) {Q : State → Prop} : ∀ (M : gMem) (x1 : Int32) (x2 : Option Nat) (x3 : Int32) (x4 : Int32) (z : Int32 × gMem), lp_X14_member_15 M x1 x2 x3 x4 = some z → (fun (r : Int32 × gMem) => Q = gMQ below D cy B H0 args s 0 0 (some (vI r.1)) r.2) z → gGo p l e rX14_member s m args below meth c D cy B H0 5 0 0 Q 15 [(1, vI x1), (2, vR x2), (3, vI x3), (4, vI x4)] [] M := by
  intro M x1 x2 x3 x4 z hf hK
  refine lp_ind (P := (fun (q : gMem × Int32) (z : Int32 × gMem) => (fun (r : Int32 × gMem) => Q = gMQ below D cy B H0 args s 0 0 (some (vI r.1)) r.2) z → gGo p l e rX14_member s m args below meth c D cy B H0 5 0 0 Q 15 [(1, vI x1), (2, vR x2), (3, vI x3), (4, vI q.2)] [] q.1)) (fun q z hq => ?_) _ _ hf hK
  intro hK
  obtain ⟨w, hw, hm⟩ := hq
  refine tb_X14_member_15 X hr _ _ _ _ _ w hw ?_
  cases w with
  | inl a => exact hm hK
  | inr b => cases hm; exact hK
set_option maxHeartbeats 4000000 in
set_option maxRecDepth 100000 in
theorem t_X14_member_0 (X : gX p s m args meth c D cy B (gSt Z B H0) RX14 cX14_member wsX14_member 5) (hr : meth.sig.returnType = (some .int)) {Q : State → Prop} : ∀ (M : gMem) (x0 : Nat) (x1 : Int32) (z : Int32 × gMem), b_X14_member_0 M x0 x1 = some z → (fun (r : Int32 × gMem) => Q = gMQ below D cy B H0 args s 0 0 (some (vI r.1)) r.2) z → gGo p l e rX14_member s m args below meth c D cy B H0 5 0 0 Q 0 [(0, vR (some x0)), (1, vI x1)] [] M := by
  intro M x0 x1 z hf hK
  unfold b_X14_member_0 at hf
  refine g_aload_n X dX14_member_0 rfl rfl ?_
  obtain ⟨hT28, hf⟩ := ck_e hf
  refine g_get (ci := 12) (v := vR (mR M x0 12)) 12 X cdX14 i_X14_member_X14 (by decide) k_X14_member_f39 rfl dX14_member_1 rfl hT28 rfl ?_
  refine g_astore_n (lv' := [(2, vR (mR M x0 12)), (0, vR (some x0)), (1, vI x1)]) X dX14_member_4 rfl (by decide) rfl ?_
  refine g_aload_n X dX14_member_5 rfl rfl ?_
  obtain ⟨a29, ha29, hf⟩ := dr_e hf
  obtain ⟨hT30, hf⟩ := ck_e hf
  refine g_getN (ci := 11) (w := vI (mI M a29 11)) 11 X cdX13 i_X14_member_X13 (by decide) (gNw X _ kn_X14_222) rfl dX14_member_6 ha29 hT30 rfl ?_
  refine g_iconst (v := (1 : Int32)) X dX14_member_9 (by decide) ?_
  refine g_isub X dX14_member_10 ?_
  refine g_istore_n (lv' := [(3, vI ((mI M a29 11) - (1 : Int32))), (2, vR (mR M x0 12)), (0, vR (some x0)), (1, vI x1)]) X dX14_member_11 rfl (by decide) rfl ?_
  refine g_iconst (v := (0 : Int32)) X dX14_member_12 (by decide) ?_
  refine g_istore (lv' := [(4, vI (0 : Int32)), (3, vI ((mI M a29 11) - (1 : Int32))), (2, vR (mR M x0 12)), (0, vR (some x0)), (1, vI x1)]) X dX14_member_13 (by decide) rfl ?_
  refine g_sub (lvsub_of _ _ [4, 2, 1, 0] rfl) ?_
  exact tl_X14_member_15 X hr _ _ _ _ _ _ hf hK
set_option maxHeartbeats 4000000 in
set_option maxRecDepth 100000 in
theorem m_X14_member (l : Launch) {D : va_G} {cy : Nat → ClassId} {B : Nat} {H0 : Heap} {Z : Nat → Nat} {M M1 : gMem} {x0 : Nat} {x1 : Int32} {r : Int32} (hf : f_X14_member M x0 x1 = some (r, M1)) : Met l yX14_member wsX14_member rX14_member (va_Pc (Value.ref x0 :: List.map gv [vI x1]) (gPre D cy B H0 (gSt Z B H0) M)) (gQ D cy B H0 (some (vI r)) M1) 0 0 (gA B) := by
  refine Met.ofW (cc := cX14_member) (maxL := 5) (ret := (some .int)) (by decide) rfl ?_
  intro p e s m args below meth c s₁ Bd hml hv
  obtain ⟨rfl, hW, hKK, hFs⟩ := hv
  have X : gX p s m _ meth c D cy B (gSt Z B H0) RX14 cX14_member wsX14_member 5 := ⟨Bd.exec, Bd.bytes, atoms_spec (ws := wsX14_member) Bd.pre, findClass_of_methodNamed Bd.named, hml, hKK, by rw [hW.1]; exact hW.2.1, Bd.notSynchronized, hFs⟩
  have hr := Bd.returns
  have hl := lv_entry ([.ref x0, .int x1]) (n := 5) (Nat.le_of_ble_eq_true rfl)
  show W p l e rX14_member s m _ below meth c s.heap [] 0 0 _ (entryFrame m ([.ref x0, .int x1] : List Value).toArray 5)
  rw [lg_entry_eq]
  generalize (lg_sl ([.ref x0, .int x1]) ++ List.replicate (5 - (lg_sl ([.ref x0, .int x1])).length) Slot.unset).toArray = ls at hl ⊢
  have hl : lv_has ls 5 (List.map gq [(0, vR (some x0)), (1, vI x1)]) := hl
  exact t_X14_member_0 X hr _ _ _ _ hf rfl s.heap [] ls hW va_S.rf (lv_has_sub hl (lvsub_of _ _ [0, 1] rfl))
end
