section
theorem goodIn_c1 {big a : List Cond} {c : Cond} (hc : GoodIn big [c]) (ha : GoodIn big a) : GoodIn big (c :: a) := fun w h => (List.mem_cons.mp h).elim (fun e => hc w (List.mem_singleton.mpr e)) (ha w)
variable {p : Program} {l : Launch} {e : Env} {s : State} {m : MethodId} {args : Array Value} {below : List Frame} {meth : Method} {c : Code} {D : va_G} {cy : Nat → ClassId} {B : Nat} {H0 : Heap} {Z : Nat → Nat}
/-! ## TideLots.teach()I -/
theorem dX11_teach_0 : decode cX11_teach 0 = .ok (.aload_n 0, 1) := by decide +kernel
theorem dX11_teach_1 : decode cX11_teach 1 = .ok (.getfield 10, 3) := by decide +kernel
theorem dX11_teach_4 : decode cX11_teach 4 = .ok (.invokevirtual 49, 3) := by decide +kernel
theorem dX11_teach_7 : decode cX11_teach 7 = .ok (.new 52, 3) := by decide +kernel
theorem dX11_teach_10 : decode cX11_teach 10 = .ok (.dup, 1) := by decide +kernel
theorem dX11_teach_11 : decode cX11_teach 11 = .ok (.aload_n 0, 1) := by decide +kernel
theorem dX11_teach_12 : decode cX11_teach 12 = .ok (.getfield 10, 3) := by decide +kernel
theorem dX11_teach_15 : decode cX11_teach 15 = .ok (.aload_n 0, 1) := by decide +kernel
theorem dX11_teach_16 : decode cX11_teach 16 = .ok (.getfield 23, 3) := by decide +kernel
theorem dX11_teach_19 : decode cX11_teach 19 = .ok (.invokespecial 54, 3) := by decide +kernel
theorem dX11_teach_22 : decode cX11_teach 22 = .ok (.astore_n 1, 1) := by decide +kernel
theorem dX11_teach_23 : decode cX11_teach 23 = .ok (.aload_n 1, 1) := by decide +kernel
theorem dX11_teach_24 : decode cX11_teach 24 = .ok (.invokevirtual 57, 3) := by decide +kernel
theorem dX11_teach_27 : decode cX11_teach 27 = .ok (.istore_n 2, 1) := by decide +kernel
theorem dX11_teach_28 : decode cX11_teach 28 = .ok (.aload_n 0, 1) := by decide +kernel
theorem dX11_teach_29 : decode cX11_teach 29 = .ok (.aload_n 1, 1) := by decide +kernel
theorem dX11_teach_30 : decode cX11_teach 30 = .ok (.getfield 61, 3) := by decide +kernel
theorem dX11_teach_33 : decode cX11_teach 33 = .ok (.putfield 26, 3) := by decide +kernel
theorem dX11_teach_36 : decode cX11_teach 36 = .ok (.aload_n 0, 1) := by decide +kernel
theorem dX11_teach_37 : decode cX11_teach 37 = .ok (.getfield 10, 3) := by decide +kernel
theorem dX11_teach_40 : decode cX11_teach 40 = .ok (.iconst 0, 1) := by decide +kernel
theorem dX11_teach_41 : decode cX11_teach 41 = .ok (.putfield 30, 3) := by decide +kernel
theorem dX11_teach_44 : decode cX11_teach 44 = .ok (.iload_n 2, 1) := by decide +kernel
theorem dX11_teach_45 : decode cX11_teach 45 = .ok (.ifCond .ne 49, 3) := by decide +kernel
theorem dX11_teach_48 : decode cX11_teach 48 = .ok (.aload_n 0, 1) := by decide +kernel
theorem dX11_teach_49 : decode cX11_teach 49 = .ok (.getfield 23, 3) := by decide +kernel
theorem dX11_teach_52 : decode cX11_teach 52 = .ok (.aload_n 0, 1) := by decide +kernel
theorem dX11_teach_53 : decode cX11_teach 53 = .ok (.getfield 19, 3) := by decide +kernel
theorem dX11_teach_56 : decode cX11_teach 56 = .ok (.getfield 62, 3) := by decide +kernel
theorem dX11_teach_59 : decode cX11_teach 59 = .ok (.putfield 62, 3) := by decide +kernel
theorem dX11_teach_62 : decode cX11_teach 62 = .ok (.aload_n 0, 1) := by decide +kernel
theorem dX11_teach_63 : decode cX11_teach 63 = .ok (.getfield 23, 3) := by decide +kernel
theorem dX11_teach_66 : decode cX11_teach 66 = .ok (.aload_n 0, 1) := by decide +kernel
theorem dX11_teach_67 : decode cX11_teach 67 = .ok (.getfield 19, 3) := by decide +kernel
theorem dX11_teach_70 : decode cX11_teach 70 = .ok (.getfield 65, 3) := by decide +kernel
theorem dX11_teach_73 : decode cX11_teach 73 = .ok (.putfield 65, 3) := by decide +kernel
theorem dX11_teach_76 : decode cX11_teach 76 = .ok (.aload_n 0, 1) := by decide +kernel
theorem dX11_teach_77 : decode cX11_teach 77 = .ok (.getfield 19, 3) := by decide +kernel
theorem dX11_teach_80 : decode cX11_teach 80 = .ok (.astore_n 3, 1) := by decide +kernel
theorem dX11_teach_81 : decode cX11_teach 81 = .ok (.aload_n 0, 1) := by decide +kernel
theorem dX11_teach_82 : decode cX11_teach 82 = .ok (.aload_n 0, 1) := by decide +kernel
theorem dX11_teach_83 : decode cX11_teach 83 = .ok (.getfield 23, 3) := by decide +kernel
theorem dX11_teach_86 : decode cX11_teach 86 = .ok (.putfield 19, 3) := by decide +kernel
theorem dX11_teach_89 : decode cX11_teach 89 = .ok (.aload_n 0, 1) := by decide +kernel
theorem dX11_teach_90 : decode cX11_teach 90 = .ok (.aload_n 3, 1) := by decide +kernel
theorem dX11_teach_91 : decode cX11_teach 91 = .ok (.putfield 23, 3) := by decide +kernel
theorem dX11_teach_94 : decode cX11_teach 94 = .ok (.iload_n 2, 1) := by decide +kernel
theorem dX11_teach_95 : decode cX11_teach 95 = .ok (.ireturn, 1) := by decide +kernel
set_option maxRecDepth 20000 in
theorem ggX11_teach_X10_scan : GoodIn wsX11_teach wsX10_scan := goodIn_2 24 (goodIn_rr wsB_X11_teach_in _ [(1, 15), (1, 16), (1, 17), (1, 18), (1, 19), (1, 20), (1, 21), (1, 22), (1, 23), (2, 0), (1, 14), (2, 1), (2, 2), (2, 3), (2, 4), (2, 5), (2, 6), (2, 7), (2, 8), (2, 9), (2, 10), (2, 11), (2, 12), (2, 13)] (by decide +kernel) (by decide +kernel)) (goodIn_2 24 (goodIn_rr wsB_X11_teach_in _ [(2, 14), (2, 15), (2, 16), (2, 17), (2, 18), (2, 19), (2, 20), (2, 21), (2, 22), (2, 23), (3, 0), (3, 1), (3, 2), (3, 3), (3, 4), (3, 5), (3, 6), (3, 7), (3, 8), (3, 9), (3, 10), (3, 11), (3, 12), (3, 13)] (by decide +kernel) (by decide +kernel)) (goodIn_2 24 (goodIn_rr wsB_X11_teach_in _ [(3, 14), (3, 15), (3, 16), (3, 17), (3, 18), (3, 19), (3, 20), (3, 21), (3, 22), (3, 23), (4, 0), (4, 1), (4, 2), (4, 3), (4, 4), (4, 5), (4, 6), (4, 7), (4, 8), (4, 9), (4, 10), (4, 11), (4, 12), (4, 13)] (by decide +kernel) (by decide +kernel)) (goodIn_2 24 (goodIn_rr wsB_X11_teach_in _ [(4, 14), (4, 15), (4, 16), (4, 17), (4, 18), (4, 19), (4, 20), (4, 21), (4, 22), (4, 23), (5, 0), (5, 1), (5, 2), (5, 3), (5, 4), (5, 5), (5, 6), (5, 7), (5, 8), (5, 9), (5, 10), (5, 11), (5, 12), (5, 13)] (by decide +kernel) (by decide +kernel)) (goodIn_rr wsB_X11_teach_in _ [(5, 14), (5, 15), (5, 16), (5, 17), (5, 18), (5, 19), (5, 20), (5, 21), (20, 0), (20, 1), (20, 2), (20, 3), (20, 4), (20, 5)] (by decide +kernel) (by decide +kernel)))))
set_option maxRecDepth 20000 in
theorem gX11_teach_X10_scan : GoodIn wsX11_teach (wsV RX11 49 RX10 yX10_scan wsX10_scan) := goodIn_app (goodIn_rr wsB_X11_teach_in _ [(1, 11), (1, 12), (1, 13), (1, 14)] (by decide +kernel) (by decide +kernel)) ggX11_teach_X10_scan
set_option maxRecDepth 20000 in
theorem ggX11_teach_X6_init : GoodIn wsX11_teach wsX6_init := goodIn_rr wsB_X11_teach_in _ [(6, 0), (6, 1), (6, 2), (6, 3), (6, 4), (6, 5), (6, 6), (6, 7), (6, 8), (6, 9), (6, 10), (6, 11), (6, 12), (6, 13), (6, 14), (6, 15), (6, 16), (6, 17), (6, 18), (6, 19), (6, 20), (6, 21), (6, 22), (19, 0), (19, 1), (19, 2), (19, 3), (19, 4), (19, 5), (19, 6), (19, 7), (19, 8), (22, 0), (22, 1)] (by decide +kernel) (by decide +kernel)
set_option maxRecDepth 20000 in
theorem gX11_teach_X6_init : GoodIn wsX11_teach (wsX6_init) := ggX11_teach_X6_init
set_option maxRecDepth 20000 in
theorem ggX11_teach_X6_read_c : GoodIn wsX11_teach [.code yX6_read cX6_read 3 (some .int)] := goodIn_rr wsB_X11_teach_in _ [(7, 2)] (by decide +kernel) (by decide +kernel)
set_option maxRecDepth 20000 in
theorem ggX11_teach_X6_read_wsX6_read_r1 : GoodIn wsX11_teach wsX6_read_r1 := goodIn_rr wsB_X11_teach_in _ [(6, 12), (7, 3), (7, 4), (7, 5), (7, 6), (6, 11), (7, 7), (7, 8), (6, 4), (7, 9), (7, 10), (7, 11), (7, 12), (7, 13), (7, 14), (7, 15), (7, 16), (7, 17), (7, 18), (7, 19), (7, 20), (7, 21), (7, 22), (1, 3)] (by decide +kernel) (by decide +kernel)
set_option maxRecDepth 20000 in
theorem ggX11_teach_X6_read_wsX6_read_r2 : GoodIn wsX11_teach wsX6_read_r2 := goodIn_rr wsB_X11_teach_in _ [(7, 23), (8, 0), (8, 1), (8, 2), (8, 3), (8, 4), (8, 5), (8, 6), (8, 7), (8, 8), (8, 9), (8, 10), (8, 11), (8, 12), (6, 8), (8, 13), (8, 14), (8, 15), (8, 16), (8, 17), (8, 18), (8, 19), (8, 20), (8, 21)] (by decide +kernel) (by decide +kernel)
set_option maxRecDepth 20000 in
theorem ggX11_teach_X6_read_wsX6_read_r3 : GoodIn wsX11_teach wsX6_read_r3 := goodIn_rr wsB_X11_teach_in _ [(8, 22), (8, 23), (9, 0), (9, 1), (9, 2), (9, 3), (9, 4), (9, 5), (9, 6), (6, 7), (9, 7), (9, 8), (6, 22), (9, 9), (9, 10), (9, 11), (9, 12), (9, 13), (9, 14), (9, 15), (9, 16), (9, 17), (9, 18), (9, 19)] (by decide +kernel) (by decide +kernel)
set_option maxRecDepth 20000 in
theorem ggX11_teach_X6_read_wsX6_read_r4 : GoodIn wsX11_teach wsX6_read_r4 := goodIn_rr wsB_X11_teach_in _ [(9, 20), (9, 21), (9, 22), (6, 19), (9, 23), (10, 0), (10, 1), (10, 2), (10, 3), (10, 4), (10, 5), (10, 6), (10, 7), (10, 8), (10, 9), (10, 10), (10, 11), (10, 12), (10, 13), (10, 14), (10, 15), (10, 16), (10, 17), (10, 18)] (by decide +kernel) (by decide +kernel)
set_option maxRecDepth 20000 in
theorem ggX11_teach_X6_read_wsX6_read_r5 : GoodIn wsX11_teach wsX6_read_r5 := goodIn_rr wsB_X11_teach_in _ [(10, 19), (10, 20), (10, 21), (10, 22), (10, 23), (11, 0), (11, 1), (6, 9), (11, 2), (11, 3), (11, 4), (11, 5), (11, 6), (11, 7), (11, 8), (11, 9), (11, 10), (11, 11), (11, 12), (11, 13), (11, 14), (11, 15), (11, 16), (11, 17)] (by decide +kernel) (by decide +kernel)
set_option maxRecDepth 20000 in
theorem ggX11_teach_X6_read_wsX6_read_r6 : GoodIn wsX11_teach wsX6_read_r6 := goodIn_rr wsB_X11_teach_in _ [(11, 18), (11, 19), (11, 20), (11, 21), (11, 22), (11, 23), (12, 0), (12, 1), (12, 2), (12, 3), (12, 4), (12, 5), (12, 6), (12, 7), (12, 8), (12, 9), (12, 10), (12, 11), (12, 12), (12, 13), (12, 14), (12, 15), (12, 16), (12, 17)] (by decide +kernel) (by decide +kernel)
set_option maxRecDepth 20000 in
theorem ggX11_teach_X6_read_wsX6_read_r7 : GoodIn wsX11_teach wsX6_read_r7 := goodIn_rr wsB_X11_teach_in _ [(12, 18), (12, 19), (12, 20), (12, 21), (12, 22), (12, 23), (13, 0), (13, 1), (13, 2), (13, 3), (13, 4), (13, 5), (13, 6), (13, 7), (13, 8), (13, 9), (13, 10), (13, 11), (13, 12), (13, 13), (13, 14), (13, 15), (13, 16), (13, 17)] (by decide +kernel) (by decide +kernel)
set_option maxRecDepth 20000 in
theorem ggX11_teach_X6_read_wsX6_read_r8 : GoodIn wsX11_teach wsX6_read_r8 := goodIn_rr wsB_X11_teach_in _ [(13, 18), (13, 19), (13, 20), (13, 21), (13, 22), (13, 23), (14, 0), (14, 1), (14, 2), (14, 3), (14, 4), (14, 5), (14, 6), (14, 7), (14, 8), (14, 9), (14, 10), (14, 11), (14, 12), (14, 13), (14, 14), (14, 15), (14, 16), (14, 17)] (by decide +kernel) (by decide +kernel)
set_option maxRecDepth 20000 in
theorem ggX11_teach_X6_read_wsX6_read_r9 : GoodIn wsX11_teach wsX6_read_r9 := goodIn_rr wsB_X11_teach_in _ [(14, 18), (14, 19), (14, 20), (14, 21), (14, 22), (14, 23), (15, 0), (15, 1), (15, 2), (15, 3), (15, 4), (15, 5), (15, 6), (15, 7), (15, 8), (15, 9), (15, 10), (15, 11), (15, 12), (6, 10), (15, 13), (15, 14), (15, 15), (15, 16)] (by decide +kernel) (by decide +kernel)
set_option maxRecDepth 20000 in
theorem ggX11_teach_X6_read_wsX6_read_r10 : GoodIn wsX11_teach wsX6_read_r10 := goodIn_rr wsB_X11_teach_in _ [(15, 17), (15, 18), (15, 19), (15, 20), (15, 21), (15, 22), (15, 23), (16, 0), (16, 1), (16, 2), (16, 3), (16, 4), (16, 5), (16, 6), (16, 7), (16, 8), (16, 9), (16, 10), (16, 11), (16, 12), (16, 13), (16, 14), (16, 15), (16, 16)] (by decide +kernel) (by decide +kernel)
set_option maxRecDepth 20000 in
theorem ggX11_teach_X6_read_wsX6_read_r11 : GoodIn wsX11_teach wsX6_read_r11 := goodIn_rr wsB_X11_teach_in _ [(16, 17), (16, 18), (16, 19), (16, 20), (16, 21), (16, 22), (16, 23), (17, 0), (17, 1), (17, 2)] (by decide +kernel) (by decide +kernel)
set_option maxRecDepth 20000 in
theorem ggX11_teach_X6_read_wsX60 : GoodIn wsX11_teach wsX60 := goodIn_rr wsB_X11_teach_in _ [(19, 0), (19, 1), (19, 2), (19, 3), (19, 4), (19, 5), (19, 6), (19, 7), (19, 8)] (by decide +kernel) (by decide +kernel)
set_option maxRecDepth 20000 in
theorem ggX11_teach_X6_read_wsX100 : GoodIn wsX11_teach wsX100 := goodIn_rr wsB_X11_teach_in _ [(20, 0), (20, 1), (20, 2), (20, 3), (20, 4), (20, 5)] (by decide +kernel) (by decide +kernel)
set_option maxRecDepth 20000 in
theorem ggX11_teach_X6_read_wsX70 : GoodIn wsX11_teach wsX70 := goodIn_rr wsB_X11_teach_in _ [(21, 0), (21, 1), (21, 2), (21, 3), (21, 4), (21, 5), (21, 6), (21, 7), (21, 8), (21, 9), (21, 10), (21, 11), (21, 12), (21, 13), (21, 14), (21, 15), (21, 16)] (by decide +kernel) (by decide +kernel)
set_option maxRecDepth 20000 in
theorem ggX11_teach_X6_read_wsX90 : GoodIn wsX11_teach wsX90 := goodIn_rr wsB_X11_teach_in _ [(23, 0), (23, 1), (23, 2), (23, 3)] (by decide +kernel) (by decide +kernel)
set_option maxRecDepth 20000 in
theorem ggX11_teach_X6_read_wsX30 : GoodIn wsX11_teach wsX30 := goodIn_rr wsB_X11_teach_in _ [(24, 0), (24, 1), (24, 2), (24, 3)] (by decide +kernel) (by decide +kernel)
set_option maxRecDepth 20000 in
theorem ggX11_teach_X6_read_wsX40 : GoodIn wsX11_teach wsX40 := goodIn_rr wsB_X11_teach_in _ [(22, 0), (22, 1)] (by decide +kernel) (by decide +kernel)
set_option maxRecDepth 20000 in
theorem ggX11_teach_X6_read_wsX10 : GoodIn wsX11_teach wsX10 := goodIn_rr wsB_X11_teach_in _ [(25, 0), (25, 1), (25, 2), (25, 3), (25, 4), (25, 5), (25, 6), (25, 7), (25, 8), (25, 9), (25, 10)] (by decide +kernel) (by decide +kernel)
set_option maxRecDepth 20000 in
theorem ggX11_teach_X6_read_wsX20 : GoodIn wsX11_teach wsX20 := goodIn_rr wsB_X11_teach_in _ [(26, 0), (26, 1), (26, 2), (26, 3)] (by decide +kernel) (by decide +kernel)
set_option maxRecDepth 20000 in
theorem ggX11_teach_X6_read_wsX50 : GoodIn wsX11_teach wsX50 := goodIn_rr wsB_X11_teach_in _ [(27, 0), (27, 1), (27, 2), (27, 3), (27, 4), (27, 5), (27, 6), (27, 7)] (by decide +kernel) (by decide +kernel)
set_option maxRecDepth 20000 in
theorem ggX11_teach_X6_read : GoodIn wsX11_teach wsX6_read := goodIn_c1 ggX11_teach_X6_read_c (goodIn_app (goodIn_app (goodIn_app (goodIn_app (goodIn_app (goodIn_app (goodIn_app (goodIn_app (goodIn_app (goodIn_app ggX11_teach_X6_read_wsX6_read_r1 (goodIn_app ggX11_teach_X6_read_wsX6_read_r2 (goodIn_app ggX11_teach_X6_read_wsX6_read_r3 (goodIn_app ggX11_teach_X6_read_wsX6_read_r4 (goodIn_app ggX11_teach_X6_read_wsX6_read_r5 (goodIn_app ggX11_teach_X6_read_wsX6_read_r6 (goodIn_app ggX11_teach_X6_read_wsX6_read_r7 (goodIn_app ggX11_teach_X6_read_wsX6_read_r8 (goodIn_app ggX11_teach_X6_read_wsX6_read_r9 (goodIn_app ggX11_teach_X6_read_wsX6_read_r10 ggX11_teach_X6_read_wsX6_read_r11)))))))))) ggX11_teach_X6_read_wsX60) ggX11_teach_X6_read_wsX100) ggX11_teach_X6_read_wsX70) ggX11_teach_X6_read_wsX90) ggX11_teach_X6_read_wsX30) ggX11_teach_X6_read_wsX40) ggX11_teach_X6_read_wsX10) ggX11_teach_X6_read_wsX20) ggX11_teach_X6_read_wsX50)
set_option maxRecDepth 20000 in
theorem gX11_teach_X6_read : GoodIn wsX11_teach (wsV RX11 57 RX6 yX6_read wsX6_read) := goodIn_app (goodIn_rr wsB_X11_teach_in _ [(6, 23), (7, 0), (7, 1), (1, 3)] (by decide +kernel) (by decide +kernel)) ggX11_teach_X6_read
theorem k_X11_teach_f10 : Cond.fieldLink RX11 10 "TideLots" "tape" "LTideLots$Tape;" ∈ wsX11_teach := by decide +kernel
theorem i_X11_teach_X11 : ∀ w ∈ u_ws RX11 TX11 4, w ∈ wsX11_teach := by decide +kernel
theorem i_X11_teach_X6 : ∀ w ∈ u_ws RX6 TX6 9, w ∈ wsX11_teach := by decide +kernel
theorem k_X11_teach_cl52 : Cond.classLink RX11 52 RX6 ∈ wsX11_teach := by decide +kernel
theorem k_X11_teach_inX6 : Cond.instantiable RX6 9 ∈ wsX11_teach := by decide +kernel
theorem k_X11_teach_iiX6 : Cond.initialized RX6 ∈ wsX11_teach := by decide +kernel
theorem k_X11_teach_f23 : Cond.fieldLink RX11 23 "TideLots" "other" "LTideLots$Shore;" ∈ wsX11_teach := by decide +kernel
theorem k_X11_teach_ml54 : Cond.methodLink RX11 54 yX6_init ∈ wsX11_teach := by decide +kernel
theorem k_X11_teach_imX6_init : Cond.instanceMethod yX6_init ∈ wsX11_teach := by decide +kernel
theorem k_X11_teach_f61 : Cond.fieldLink RX11 61 "TideLots$Reader" "errorAt" "I" ∈ wsX11_teach := by decide +kernel
theorem k_X11_teach_f26 : Cond.fieldLink RX11 26 "TideLots" "errorAt" "I" ∈ wsX11_teach := by decide +kernel
theorem k_X11_teach_f30 : Cond.fieldLink RX11 30 "TideLots$Tape" "length" "I" ∈ wsX11_teach := by decide +kernel
theorem i_X11_teach_X10 : ∀ w ∈ u_ws RX10 TX10 6, w ∈ wsX11_teach := by decide +kernel
theorem k_X11_teach_f19 : Cond.fieldLink RX11 19 "TideLots" "shore" "LTideLots$Shore;" ∈ wsX11_teach := by decide +kernel
theorem k_X11_teach_f62 : Cond.fieldLink RX11 62 "TideLots$Shore" "tide" "I" ∈ wsX11_teach := by decide +kernel
theorem i_X11_teach_X7 : ∀ w ∈ u_ws RX7 TX7 17, w ∈ wsX11_teach := by decide +kernel
theorem k_X11_teach_f65 : Cond.fieldLink RX11 65 "TideLots$Shore" "luck" "I" ∈ wsX11_teach := by decide +kernel
abbrev rX11_teach : Room := { frames := 69, cells := 7, slots := 39, locals := 2671 }
noncomputable def b_X11_teach_94 (Z : Nat → Nat) (M : gMem) (x2 : Int32) : Option (Int32 × gMem) :=
  some (x2, M)
noncomputable def b_X11_teach_0 (Z : Nat → Nat) (M : gMem) (x0 : Nat) : Option (Int32 × gMem) :=
  ck (mT M x0 = 10) <| dr ((mR M x0 0)) fun a3 => ck (mT M a3 = 9) <| bd (f_X10_scan Z M a3) fun _ M2 => lw (nW M2 6 0) fun M5 => ck (mT M5 x0 = 10) <| bd (f_X6_init M5 ((mN M2)) ((mR M5 x0 0)) ((mR M5 x0 2))) fun _ M7 => ck (mT M7 (mN M2) = 6) <| bd (f_X6_read Z M7 ((mN M2))) fun r8 M8 => ck (mT M8 (mN M2) = 6) <| ck (mT M8 x0 = 10) <| lw (wI M8 x0 3 ((mI M8 (mN M2) 0))) fun M12 => dr ((mR M12 x0 0)) fun a15 => ck (mT M12 a15 = 9) <| lw (wI M12 a15 0 ((0 : Int32))) fun M17 => (if r8 = 0 then dr ((mR M17 x0 1)) fun a21 => ck (mT M17 a21 = 7) <| dr ((mR M17 x0 2)) fun a23 => ck (mT M17 a23 = 7) <| lw (wI M17 a23 0 ((mI M17 a21 0))) fun M25 => dr ((mR M25 x0 1)) fun a31 => ck (mT M25 a31 = 7) <| dr ((mR M25 x0 2)) fun a33 => ck (mT M25 a33 = 7) <| lw (wI M25 a33 1 ((mI M25 a31 1))) fun M35 => lw (wR M35 x0 1 ((mR M35 x0 2))) fun M43 => lw (wR M43 x0 2 ((mR M35 x0 1))) fun M51 => b_X11_teach_94 Z M51 r8 else b_X11_teach_94 Z M17 r8)
noncomputable def f_X11_teach (Z : Nat → Nat) (M : gMem) (x0 : Nat) : Option (Int32 × gMem) :=
  b_X11_teach_0 Z M x0
set_option maxHeartbeats 4000000 in
set_option maxRecDepth 100000 in
theorem t_X11_teach_94 (X : gX p s m args meth c D cy B (gSt Z B H0) RX11 cX11_teach wsX11_teach 4) (hr : meth.sig.returnType = (some .int)) {Q : State → Prop} : ∀ (M : gMem) (x2 : Int32) (z : Int32 × gMem), b_X11_teach_94 Z M x2 = some z → (fun (r : Int32 × gMem) => Q = gMQ below D cy B H0 args s 7 39 (some (vI r.1)) r.2) z → gGo p l e rX11_teach s m args below meth c D cy B H0 4 7 39 Q 94 [(2, vI x2)] [] M := by
  intro M x2 z hf hK
  unfold b_X11_teach_94 at hf
  refine g_iload_n X dX11_teach_94 rfl rfl ?_
  cases hf
  refine g_eqQ hK ?_
  exact g_iret X hr dX11_teach_95
set_option maxHeartbeats 4000000 in
set_option maxRecDepth 100000 in
theorem t_X11_teach_0 (X : gX p s m args meth c D cy B (gSt Z B H0) RX11 cX11_teach wsX11_teach 4) (hr : meth.sig.returnType = (some .int)) {Q : State → Prop} : ∀ (M : gMem) (x0 : Nat) (z : Int32 × gMem), b_X11_teach_0 Z M x0 = some z → (fun (r : Int32 × gMem) => Q = gMQ below D cy B H0 args s 7 39 (some (vI r.1)) r.2) z → gGo p l e rX11_teach s m args below meth c D cy B H0 4 0 0 Q 0 [(0, vR (some x0))] [] M := by
  intro M x0 z hf hK
  unfold b_X11_teach_0 at hf
  refine g_aload_n X dX11_teach_0 rfl rfl ?_
  obtain ⟨hT1, hf⟩ := ck_e hf
  refine g_get (ci := 9) (v := vR (mR M x0 0)) 0 X cdX11 i_X11_teach_X11 (by decide) k_X11_teach_f10 rfl dX11_teach_1 rfl hT1 rfl ?_
  obtain ⟨a3, ha3, hf⟩ := dr_e hf
  obtain ⟨hT4, hf⟩ := ck_e hf
  obtain ⟨r2, M2, hq2, hf⟩ := bd_e hf
  refine g_callV (ci := 8) (b := a3) (As := []) (st := []) (v := none) (M1 := M2) X (m_X10_scan l hq2) (cwV 0 X.2.2.1 gX11_teach_X10_scan rfl rfl rfl (by decide +kernel) ⟨Nat.le_of_ble_eq_true rfl, Nat.le_of_ble_eq_true rfl⟩) rfl rfl ha3 hT4 (by decide) rfl (Nat.le_of_ble_eq_true rfl) dX11_teach_4 ⟨by decide, by decide⟩ ?_
  refine g_new (ci := 5) X cdX6 i_X11_teach_X6 k_X11_teach_cl52 k_X11_teach_inX6 k_X11_teach_iiX6 (by intro i hi; rcases (show i = 0 ∨ i = 1 ∨ i = 2 ∨ i = 3 ∨ i = 4 ∨ i = 5 ∨ i = 6 ∨ i = 7 ∨ i = 8 by omega) with rfl | rfl | rfl | rfl | rfl | rfl | rfl | rfl | rfl <;> rfl) ⟨by decide, by decide⟩ dX11_teach_7 ?_
  obtain ⟨M5, hM5, hf⟩ := lw_e hf
  rw [← hM5]
  refine g_dup X dX11_teach_10 rfl ?_
  refine g_aload_n X dX11_teach_11 rfl rfl ?_
  obtain ⟨hT6, hf⟩ := ck_e hf
  refine g_get (ci := 9) (v := vR (mR M5 x0 0)) 0 X cdX11 i_X11_teach_X11 (by decide) k_X11_teach_f10 rfl dX11_teach_12 rfl hT6 rfl ?_
  refine g_aload_n X dX11_teach_15 rfl rfl ?_
  refine g_get (ci := 9) (v := vR (mR M5 x0 2)) 2 X cdX11 i_X11_teach_X11 (by decide) k_X11_teach_f23 rfl dX11_teach_16 rfl hT6 rfl ?_
  obtain ⟨r7, M7, hq7, hf⟩ := bd_e hf
  refine g_callI (b := (mN M2)) (As := [vR (mR M5 x0 0), vR (mR M5 x0 2)]) (st := [vR (some (mN M2))]) (M1 := M7) X (m_X6_init l hq7) (cwI 2 X.2.2.1 gX11_teach_X6_init rfl rfl rfl (X.2.2.1 _ k_X11_teach_iiX6) (X.2.2.1 _ k_X11_teach_ml54) (X.2.2.1 _ k_X11_teach_imX6_init) rfl (by decide +kernel) ⟨Nat.le_of_ble_eq_true rfl, Nat.le_of_ble_eq_true rfl⟩) rfl rfl rfl (Nat.le_of_ble_eq_true rfl) dX11_teach_19 ⟨by decide, by decide⟩ ?_
  refine g_astore_n (lv' := [(1, vR (some (mN M2))), (0, vR (some x0))]) X dX11_teach_22 rfl (by decide) rfl ?_
  refine g_aload_n X dX11_teach_23 rfl rfl ?_
  obtain ⟨hT9, hf⟩ := ck_e hf
  obtain ⟨r8, M8, hq8, hf⟩ := bd_e hf
  refine g_callV (ci := 5) (b := (mN M2)) (As := []) (st := []) (v := some (vI r8)) (M1 := M8) X (m_X6_read l hq8) (cwV 0 X.2.2.1 gX11_teach_X6_read rfl rfl rfl (by decide +kernel) ⟨Nat.le_of_ble_eq_true rfl, Nat.le_of_ble_eq_true rfl⟩) rfl rfl rfl hT9 (by decide) rfl (Nat.le_of_ble_eq_true rfl) dX11_teach_24 ⟨by decide, by decide⟩ ?_
  refine g_istore_n (lv' := [(2, vI r8), (1, vR (some (mN M2))), (0, vR (some x0))]) X dX11_teach_27 rfl (by decide) rfl ?_
  refine g_aload_n X dX11_teach_28 rfl rfl ?_
  refine g_aload_n X dX11_teach_29 rfl rfl ?_
  obtain ⟨hT10, hf⟩ := ck_e hf
  refine g_get (ci := 5) (v := vI (mI M8 (mN M2) 0)) 0 X cdX6 i_X11_teach_X6 (by decide) k_X11_teach_f61 rfl dX11_teach_30 rfl hT10 rfl ?_
  obtain ⟨hT11, hf⟩ := ck_e hf
  refine g_putI (ci := 9) 3 X cdX11 i_X11_teach_X11 (by decide) k_X11_teach_f26 rfl dX11_teach_33 rfl hT11 (Or.inl rfl) rfl rfl rfl ?_
  obtain ⟨M12, hM12, hf⟩ := lw_e hf
  rw [← hM12]
  have hT13 : mT M12 (mN M2) = 6 := by rw [hM12]; exact hT10
  have hT14 : mT M12 x0 = 10 := by rw [hM12]; exact hT11
  refine g_aload_n X dX11_teach_36 rfl rfl ?_
  refine g_get (ci := 9) (v := vR (mR M12 x0 0)) 0 X cdX11 i_X11_teach_X11 (by decide) k_X11_teach_f10 rfl dX11_teach_37 rfl hT14 rfl ?_
  refine g_iconst (v := (0 : Int32)) X dX11_teach_40 (by decide) ?_
  obtain ⟨a15, ha15, hf⟩ := dr_e hf
  obtain ⟨hT16, hf⟩ := ck_e hf
  refine g_putI (ci := 8) 0 X cdX10 i_X11_teach_X10 (by decide) k_X11_teach_f30 rfl dX11_teach_41 ha15 hT16 (Or.inl rfl) rfl rfl rfl ?_
  obtain ⟨M17, hM17, hf⟩ := lw_e hf
  rw [← hM17]
  have hT18 : mT M17 (mN M2) = 6 := by rw [hM17]; exact hT13
  have hT19 : mT M17 x0 = 10 := by rw [hM17]; exact hT14
  have hT20 : mT M17 a15 = 9 := by rw [hM17]; exact hT16
  refine g_iload_n X dX11_teach_44 rfl rfl ?_
  refine g_if_ne (tgt := 94) X dX11_teach_45 (by decide) (fun hc => ?_) (fun hc => ?_)
  · have hf := ife_f hc hf
    refine g_sub (lvsub_of _ _ [0] rfl) ?_
    exact t_X11_teach_94 X hr _ _ _ hf hK
  · have hf := ife_t hc hf
    refine g_aload_n X dX11_teach_48 rfl rfl ?_
    refine g_get (ci := 9) (v := vR (mR M17 x0 2)) 2 X cdX11 i_X11_teach_X11 (by decide) k_X11_teach_f23 rfl dX11_teach_49 rfl hT19 rfl ?_
    refine g_aload_n X dX11_teach_52 rfl rfl ?_
    refine g_get (ci := 9) (v := vR (mR M17 x0 1)) 1 X cdX11 i_X11_teach_X11 (by decide) k_X11_teach_f19 rfl dX11_teach_53 rfl hT19 rfl ?_
    obtain ⟨a21, ha21, hf⟩ := dr_e hf
    obtain ⟨hT22, hf⟩ := ck_e hf
    refine g_get (ci := 6) (v := vI (mI M17 a21 0)) 0 X cdX7 i_X11_teach_X7 (by decide) k_X11_teach_f62 rfl dX11_teach_56 ha21 hT22 rfl ?_
    obtain ⟨a23, ha23, hf⟩ := dr_e hf
    obtain ⟨hT24, hf⟩ := ck_e hf
    refine g_putI (ci := 6) 0 X cdX7 i_X11_teach_X7 (by decide) k_X11_teach_f62 rfl dX11_teach_59 ha23 hT24 (Or.inl rfl) rfl rfl rfl ?_
    obtain ⟨M25, hM25, hf⟩ := lw_e hf
    rw [← hM25]
    have hT26 : mT M25 (mN M2) = 6 := by rw [hM25]; exact hT18
    have hT27 : mT M25 x0 = 10 := by rw [hM25]; exact hT19
    have hT28 : mT M25 a15 = 9 := by rw [hM25]; exact hT20
    have hT29 : mT M25 a21 = 7 := by rw [hM25]; exact hT22
    have hT30 : mT M25 a23 = 7 := by rw [hM25]; exact hT24
    refine g_aload_n X dX11_teach_62 rfl rfl ?_
    refine g_get (ci := 9) (v := vR (mR M25 x0 2)) 2 X cdX11 i_X11_teach_X11 (by decide) k_X11_teach_f23 rfl dX11_teach_63 rfl hT27 rfl ?_
    refine g_aload_n X dX11_teach_66 rfl rfl ?_
    refine g_get (ci := 9) (v := vR (mR M25 x0 1)) 1 X cdX11 i_X11_teach_X11 (by decide) k_X11_teach_f19 rfl dX11_teach_67 rfl hT27 rfl ?_
    obtain ⟨a31, ha31, hf⟩ := dr_e hf
    obtain ⟨hT32, hf⟩ := ck_e hf
    refine g_get (ci := 6) (v := vI (mI M25 a31 1)) 1 X cdX7 i_X11_teach_X7 (by decide) k_X11_teach_f65 rfl dX11_teach_70 ha31 hT32 rfl ?_
    obtain ⟨a33, ha33, hf⟩ := dr_e hf
    obtain ⟨hT34, hf⟩ := ck_e hf
    refine g_putI (ci := 6) 1 X cdX7 i_X11_teach_X7 (by decide) k_X11_teach_f65 rfl dX11_teach_73 ha33 hT34 (Or.inl rfl) rfl rfl rfl ?_
    obtain ⟨M35, hM35, hf⟩ := lw_e hf
    rw [← hM35]
    have hT36 : mT M35 (mN M2) = 6 := by rw [hM35]; exact hT26
    have hT37 : mT M35 x0 = 10 := by rw [hM35]; exact hT27
    have hT38 : mT M35 a15 = 9 := by rw [hM35]; exact hT28
    have hT39 : mT M35 a21 = 7 := by rw [hM35]; exact hT29
    have hT40 : mT M35 a23 = 7 := by rw [hM35]; exact hT30
    have hT41 : mT M35 a31 = 7 := by rw [hM35]; exact hT32
    have hT42 : mT M35 a33 = 7 := by rw [hM35]; exact hT34
    refine g_aload_n X dX11_teach_76 rfl rfl ?_
    refine g_get (ci := 9) (v := vR (mR M35 x0 1)) 1 X cdX11 i_X11_teach_X11 (by decide) k_X11_teach_f19 rfl dX11_teach_77 rfl hT37 rfl ?_
    refine g_astore_n (lv' := [(3, vR (mR M35 x0 1)), (2, vI r8), (1, vR (some (mN M2))), (0, vR (some x0))]) X dX11_teach_80 rfl (by decide) rfl ?_
    refine g_aload_n X dX11_teach_81 rfl rfl ?_
    refine g_aload_n X dX11_teach_82 rfl rfl ?_
    refine g_get (ci := 9) (v := vR (mR M35 x0 2)) 2 X cdX11 i_X11_teach_X11 (by decide) k_X11_teach_f23 rfl dX11_teach_83 rfl hT37 rfl ?_
    refine g_putR (ci := 9) 1 X cdX11 i_X11_teach_X11 (by decide) k_X11_teach_f19 rfl dX11_teach_86 rfl hT37 (Or.inl rfl) (gnO _ _) (gfO _ _) rfl ?_
    obtain ⟨M43, hM43, hf⟩ := lw_e hf
    rw [← hM43]
    have hT44 : mT M43 (mN M2) = 6 := by rw [hM43]; exact hT36
    have hT45 : mT M43 x0 = 10 := by rw [hM43]; exact hT37
    have hT46 : mT M43 a15 = 9 := by rw [hM43]; exact hT38
    have hT47 : mT M43 a21 = 7 := by rw [hM43]; exact hT39
    have hT48 : mT M43 a23 = 7 := by rw [hM43]; exact hT40
    have hT49 : mT M43 a31 = 7 := by rw [hM43]; exact hT41
    have hT50 : mT M43 a33 = 7 := by rw [hM43]; exact hT42
    refine g_aload_n X dX11_teach_89 rfl rfl ?_
    refine g_aload_n X dX11_teach_90 rfl rfl ?_
    refine g_putR (ci := 9) 2 X cdX11 i_X11_teach_X11 (by decide) k_X11_teach_f23 rfl dX11_teach_91 rfl hT45 (Or.inl rfl) (gnO _ _) (gfO _ _) rfl ?_
    obtain ⟨M51, hM51, hf⟩ := lw_e hf
    rw [← hM51]
    have hT52 : mT M51 (mN M2) = 6 := by rw [hM51]; exact hT44
    have hT53 : mT M51 x0 = 10 := by rw [hM51]; exact hT45
    have hT54 : mT M51 a15 = 9 := by rw [hM51]; exact hT46
    have hT55 : mT M51 a21 = 7 := by rw [hM51]; exact hT47
    have hT56 : mT M51 a23 = 7 := by rw [hM51]; exact hT48
    have hT57 : mT M51 a31 = 7 := by rw [hM51]; exact hT49
    have hT58 : mT M51 a33 = 7 := by rw [hM51]; exact hT50
    refine g_sub (lvsub_of _ _ [1] rfl) ?_
    exact t_X11_teach_94 X hr _ _ _ hf hK
set_option maxHeartbeats 4000000 in
set_option maxRecDepth 100000 in
theorem m_X11_teach (l : Launch) {D : va_G} {cy : Nat → ClassId} {B : Nat} {H0 : Heap} {Z : Nat → Nat} {M M1 : gMem} {x0 : Nat} {r : Int32} (hf : f_X11_teach Z M x0 = some (r, M1)) : Met l yX11_teach wsX11_teach rX11_teach (va_Pc (Value.ref x0 :: List.map gv []) (gPre D cy B H0 (gSt Z B H0) M)) (gQ D cy B H0 (some (vI r)) M1) 7 39 (gA B) := by
  refine Met.ofW (cc := cX11_teach) (maxL := 4) (ret := (some .int)) (by decide) rfl ?_
  intro p e s m args below meth c s₁ Bd hml hv
  obtain ⟨rfl, hW, hKK, hFs⟩ := hv
  have X : gX p s m _ meth c D cy B (gSt Z B H0) RX11 cX11_teach wsX11_teach 4 := ⟨Bd.exec, Bd.bytes, atoms_spec (ws := wsX11_teach) Bd.pre, findClass_of_methodNamed Bd.named, hml, hKK, by rw [hW.1]; exact hW.2.1, Bd.notSynchronized, hFs⟩
  have hr := Bd.returns
  have hl := lv_entry ([.ref x0]) (n := 4) (Nat.le_of_ble_eq_true rfl)
  show W p l e rX11_teach s m _ below meth c s.heap [] 0 0 _ (entryFrame m ([.ref x0] : List Value).toArray 4)
  rw [lg_entry_eq]
  generalize (lg_sl ([.ref x0]) ++ List.replicate (4 - (lg_sl ([.ref x0])).length) Slot.unset).toArray = ls at hl ⊢
  have hl : lv_has ls 4 (List.map gq [(0, vR (some x0))]) := hl
  exact t_X11_teach_0 X hr _ _ _ hf rfl s.heap [] ls hW va_S.rf (lv_has_sub hl (lvsub_of _ _ [0] rfl))
end
