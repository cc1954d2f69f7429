section
variable {p : Program} {l : Launch} {e : Env} {s : State} {m : MethodId} {args : Array Value} {below : List Frame} {meth : Method} {c : Code} {D : va_G} {cy : Nat → ClassId} {B : Nat} {H0 : Heap} {Z : Nat → Nat}
/-! ## TideLotsModel.read()I -/
theorem dX14_read_0 : decode cX14_read 0 = .ok (.aload_n 0, 1) := by decide +kernel
theorem dX14_read_1 : decode cX14_read 1 = .ok (.new 32, 3) := by decide +kernel
theorem dX14_read_4 : decode cX14_read 4 = .ok (.dup, 1) := by decide +kernel
theorem dX14_read_5 : decode cX14_read 5 = .ok (.invokespecial 34, 3) := by decide +kernel
theorem dX14_read_8 : decode cX14_read 8 = .ok (.putfield 39, 3) := by decide +kernel
theorem dX14_read_11 : decode cX14_read 11 = .ok (.aload_n 0, 1) := by decide +kernel
theorem dX14_read_12 : decode cX14_read 12 = .ok (.invokevirtual 267, 3) := by decide +kernel
theorem dX14_read_15 : decode cX14_read 15 = .ok (.aload_n 0, 1) := by decide +kernel
theorem dX14_read_16 : decode cX14_read 16 = .ok (.iconst 0, 1) := by decide +kernel
theorem dX14_read_17 : decode cX14_read 17 = .ok (.putfield 118, 3) := by decide +kernel
theorem dX14_read_20 : decode cX14_read 20 = .ok (.aload_n 0, 1) := by decide +kernel
theorem dX14_read_21 : decode cX14_read 21 = .ok (.iconst 0, 1) := by decide +kernel
theorem dX14_read_22 : decode cX14_read 22 = .ok (.putfield 187, 3) := by decide +kernel
theorem dX14_read_25 : decode cX14_read 25 = .ok (.aload_n 0, 1) := by decide +kernel
theorem dX14_read_26 : decode cX14_read 26 = .ok (.invokevirtual 270, 3) := by decide +kernel
theorem dX14_read_29 : decode cX14_read 29 = .ok (.ifCond .ne 18, 3) := by decide +kernel
theorem dX14_read_32 : decode cX14_read 32 = .ok (.aload_n 0, 1) := by decide +kernel
theorem dX14_read_33 : decode cX14_read 33 = .ok (.aload_n 0, 1) := by decide +kernel
theorem dX14_read_34 : decode cX14_read 34 = .ok (.getfield 20, 3) := by decide +kernel
theorem dX14_read_37 : decode cX14_read 37 = .ok (.aload_n 0, 1) := by decide +kernel
theorem dX14_read_38 : decode cX14_read 38 = .ok (.getfield 118, 3) := by decide +kernel
theorem dX14_read_41 : decode cX14_read 41 = .ok (.iaload, 1) := by decide +kernel
theorem dX14_read_42 : decode cX14_read 42 = .ok (.putfield 13, 3) := by decide +kernel
theorem dX14_read_45 : decode cX14_read 45 = .ok (.iconst 1, 1) := by decide +kernel
theorem dX14_read_46 : decode cX14_read 46 = .ok (.ireturn, 1) := by decide +kernel
theorem dX14_read_47 : decode cX14_read 47 = .ok (.aload_n 0, 1) := by decide +kernel
theorem dX14_read_48 : decode cX14_read 48 = .ok (.getfield 118, 3) := by decide +kernel
theorem dX14_read_51 : decode cX14_read 51 = .ok (.istore_n 1, 1) := by decide +kernel
theorem dX14_read_52 : decode cX14_read 52 = .ok (.aload_n 0, 1) := by decide +kernel
theorem dX14_read_53 : decode cX14_read 53 = .ok (.iconst 0, 1) := by decide +kernel
theorem dX14_read_54 : decode cX14_read 54 = .ok (.putfield 118, 3) := by decide +kernel
theorem dX14_read_57 : decode cX14_read 57 = .ok (.aload_n 0, 1) := by decide +kernel
theorem dX14_read_58 : decode cX14_read 58 = .ok (.getfield 118, 3) := by decide +kernel
theorem dX14_read_61 : decode cX14_read 61 = .ok (.iload_n 1, 1) := by decide +kernel
theorem dX14_read_62 : decode cX14_read 62 = .ok (.if_icmp .ge 47, 3) := by decide +kernel
theorem dX14_read_65 : decode cX14_read 65 = .ok (.aload_n 0, 1) := by decide +kernel
theorem dX14_read_66 : decode cX14_read 66 = .ok (.aload_n 0, 1) := by decide +kernel
theorem dX14_read_67 : decode cX14_read 67 = .ok (.getfield 118, 3) := by decide +kernel
theorem dX14_read_70 : decode cX14_read 70 = .ok (.invokevirtual 273, 3) := by decide +kernel
theorem dX14_read_73 : decode cX14_read 73 = .ok (.istore_n 2, 1) := by decide +kernel
theorem dX14_read_74 : decode cX14_read 74 = .ok (.iload_n 2, 1) := by decide +kernel
theorem dX14_read_75 : decode cX14_read 75 = .ok (.ifCond .ne 6, 3) := by decide +kernel
theorem dX14_read_78 : decode cX14_read 78 = .ok (.goto 18, 3) := by decide +kernel
theorem dX14_read_81 : decode cX14_read 81 = .ok (.aload_n 0, 1) := by decide +kernel
theorem dX14_read_82 : decode cX14_read 82 = .ok (.aload_n 0, 1) := by decide +kernel
theorem dX14_read_83 : decode cX14_read 83 = .ok (.getfield 20, 3) := by decide +kernel
theorem dX14_read_86 : decode cX14_read 86 = .ok (.aload_n 0, 1) := by decide +kernel
theorem dX14_read_87 : decode cX14_read 87 = .ok (.getfield 118, 3) := by decide +kernel
theorem dX14_read_90 : decode cX14_read 90 = .ok (.iaload, 1) := by decide +kernel
theorem dX14_read_91 : decode cX14_read 91 = .ok (.putfield 13, 3) := by decide +kernel
theorem dX14_read_94 : decode cX14_read 94 = .ok (.iload_n 2, 1) := by decide +kernel
theorem dX14_read_95 : decode cX14_read 95 = .ok (.ireturn, 1) := by decide +kernel
theorem dX14_read_96 : decode cX14_read 96 = .ok (.aload_n 0, 1) := by decide +kernel
theorem dX14_read_97 : decode cX14_read 97 = .ok (.dup, 1) := by decide +kernel
theorem dX14_read_98 : decode cX14_read 98 = .ok (.getfield 118, 3) := by decide +kernel
theorem dX14_read_101 : decode cX14_read 101 = .ok (.iconst 1, 1) := by decide +kernel
theorem dX14_read_102 : decode cX14_read 102 = .ok (.iadd, 1) := by decide +kernel
theorem dX14_read_103 : decode cX14_read 103 = .ok (.putfield 118, 3) := by decide +kernel
theorem dX14_read_106 : decode cX14_read 106 = .ok (.goto (-49), 3) := by decide +kernel
theorem dX14_read_109 : decode cX14_read 109 = .ok (.iconst 0, 1) := by decide +kernel
theorem dX14_read_110 : decode cX14_read 110 = .ok (.istore_n 2, 1) := by decide +kernel
theorem dX14_read_111 : decode cX14_read 111 = .ok (.iload_n 2, 1) := by decide +kernel
theorem dX14_read_112 : decode cX14_read 112 = .ok (.aload_n 0, 1) := by decide +kernel
theorem dX14_read_113 : decode cX14_read 113 = .ok (.getfield 39, 3) := by decide +kernel
theorem dX14_read_116 : decode cX14_read 116 = .ok (.getfield 193, 3) := by decide +kernel
theorem dX14_read_119 : decode cX14_read 119 = .ok (.if_icmp .ge 48, 3) := by decide +kernel
theorem dX14_read_122 : decode cX14_read 122 = .ok (.aload_n 0, 1) := by decide +kernel
theorem dX14_read_123 : decode cX14_read 123 = .ok (.getfield 39, 3) := by decide +kernel
theorem dX14_read_126 : decode cX14_read 126 = .ok (.getfield 127, 3) := by decide +kernel
theorem dX14_read_129 : decode cX14_read 129 = .ok (.aload_n 0, 1) := by decide +kernel
theorem dX14_read_130 : decode cX14_read 130 = .ok (.getfield 39, 3) := by decide +kernel
theorem dX14_read_133 : decode cX14_read 133 = .ok (.getfield 190, 3) := by decide +kernel
theorem dX14_read_136 : decode cX14_read 136 = .ok (.iload_n 2, 1) := by decide +kernel
theorem dX14_read_137 : decode cX14_read 137 = .ok (.iaload, 1) := by decide +kernel
theorem dX14_read_138 : decode cX14_read 138 = .ok (.aload_n 0, 1) := by decide +kernel
theorem dX14_read_139 : decode cX14_read 139 = .ok (.getfield 29, 3) := by decide +kernel
theorem dX14_read_142 : decode cX14_read 142 = .ok (.aload_n 0, 1) := by decide +kernel
theorem dX14_read_143 : decode cX14_read 143 = .ok (.getfield 39, 3) := by decide +kernel
theorem dX14_read_146 : decode cX14_read 146 = .ok (.getfield 127, 3) := by decide +kernel
theorem dX14_read_149 : decode cX14_read 149 = .ok (.aload_n 0, 1) := by decide +kernel
theorem dX14_read_150 : decode cX14_read 150 = .ok (.getfield 39, 3) := by decide +kernel
theorem dX14_read_153 : decode cX14_read 153 = .ok (.getfield 190, 3) := by decide +kernel
theorem dX14_read_156 : decode cX14_read 156 = .ok (.iload_n 2, 1) := by decide +kernel
theorem dX14_read_157 : decode cX14_read 157 = .ok (.iaload, 1) := by decide +kernel
theorem dX14_read_158 : decode cX14_read 158 = .ok (.iaload, 1) := by decide +kernel
theorem dX14_read_159 : decode cX14_read 159 = .ok (.iaload, 1) := by decide +kernel
theorem dX14_read_160 : decode cX14_read 160 = .ok (.iastore, 1) := by decide +kernel
theorem dX14_read_161 : decode cX14_read 161 = .ok (.iinc 2 1, 3) := by decide +kernel
theorem dX14_read_164 : decode cX14_read 164 = .ok (.goto (-53), 3) := by decide +kernel
theorem dX14_read_167 : decode cX14_read 167 = .ok (.iconst 0, 1) := by decide +kernel
theorem dX14_read_168 : decode cX14_read 168 = .ok (.ireturn, 1) := by decide +kernel
set_option maxRecDepth 20000 in
theorem ggX14_read_X14_errorOf : GoodIn wsX14_read wsX14_errorOf := goodIn_2 24 (goodIn_rr wsB_X14_read_in _ [(11, 14), (1, 3), (2, 12), (1, 8), (11, 15), (11, 16), (11, 17), (2, 10), (11, 18), (11, 19), (11, 20), (11, 21), (11, 22), (2, 14), (2, 20), (1, 6), (11, 3), (11, 4), (11, 5), (11, 6), (11, 23), (12, 0), (12, 1), (12, 2)] (by decide +kernel) (by decide +kernel)) (goodIn_2 24 (goodIn_rr wsB_X14_read_in _ [(12, 3), (12, 4), (12, 5), (12, 6), (12, 7), (12, 8), (12, 9), (12, 10), (12, 11), (12, 12), (12, 13), (14, 0), (14, 1), (14, 2), (14, 3), (14, 4), (14, 5), (14, 6), (14, 7), (14, 8), (14, 9), (14, 10), (14, 11), (14, 12)] (by decide +kernel) (by decide +kernel)) (goodIn_2 24 (goodIn_rr wsB_X14_read_in _ [(14, 13), (14, 14), (13, 0), (13, 1), (13, 2), (13, 3), (13, 4), (13, 5), (13, 6), (13, 7), (13, 8), (13, 9), (13, 10), (13, 11), (13, 12), (13, 13), (13, 14), (13, 15), (13, 16), (13, 17), (13, 18), (13, 19), (13, 20), (13, 21)] (by decide +kernel) (by decide +kernel)) (goodIn_rr wsB_X14_read_in _ [(13, 22), (13, 23), (13, 24)] (by decide +kernel) (by decide +kernel))))
set_option maxRecDepth 20000 in
theorem gX14_read_X14_errorOf : GoodIn wsX14_read (wsV RX14 273 RX14 yX14_errorOf wsX14_errorOf) := goodIn_app (goodIn_rr wsB_X14_read_in _ [(11, 11), (11, 12), (11, 13), (2, 10)] (by decide +kernel) (by decide +kernel)) ggX14_read_X14_errorOf
set_option maxRecDepth 20000 in
theorem ggX14_read_X13_init : GoodIn wsX14_read wsX13_init := goodIn_2 24 (goodIn_rr wsB_X14_read_in _ [(1, 10), (1, 11), (1, 12), (1, 13), (1, 14), (1, 15), (1, 16), (1, 17), (1, 18), (1, 19), (1, 20), (1, 21), (1, 22), (1, 23), (2, 0), (2, 1), (2, 2), (2, 3), (2, 4), (2, 5), (2, 6), (13, 0), (13, 1), (13, 2)] (by decide +kernel) (by decide +kernel)) (goodIn_rr wsB_X14_read_in _ [(13, 3), (13, 4), (13, 5), (13, 6), (13, 7), (13, 8), (13, 9), (13, 10), (13, 11), (13, 12), (13, 13), (13, 14), (13, 15), (13, 16), (13, 17), (13, 18), (13, 19), (13, 20), (13, 21), (13, 22), (13, 23), (13, 24)] (by decide +kernel) (by decide +kernel))
set_option maxRecDepth 20000 in
theorem gX14_read_X13_init_n34 : GoodIn wsX14_read (wsX13_init) := ggX14_read_X13_init
set_option maxRecDepth 20000 in
theorem ggX14_read_X14_cut_c : GoodIn wsX14_read [.code yX14_cut cX14_cut 3 none] := goodIn_rr wsB_X14_read_in _ [(2, 11)] (by decide +kernel) (by decide +kernel)
set_option maxRecDepth 20000 in
theorem ggX14_read_X14_cut_wsX14_cut_r1 : GoodIn wsX14_read wsX14_cut_r1 := goodIn_rr wsB_X14_read_in _ [(1, 6), (2, 12), (1, 8), (2, 13), (2, 14), (2, 15), (2, 16), (2, 17), (2, 10), (2, 18), (2, 19), (2, 20), (2, 21), (2, 22), (2, 23), (3, 0), (3, 1), (3, 2), (3, 3), (3, 4), (3, 5), (3, 6), (3, 7), (3, 8)] (by decide +kernel) (by decide +kernel)
set_option maxRecDepth 20000 in
theorem ggX14_read_X14_cut_wsX14_cut_r2 : GoodIn wsX14_read wsX14_cut_r2 := goodIn_rr wsB_X14_read_in _ [(3, 9), (3, 10), (3, 11), (3, 12), (3, 13), (3, 14), (3, 15), (3, 16), (3, 17), (3, 18), (3, 19), (3, 20), (3, 21), (3, 22), (3, 23), (4, 0), (4, 1), (4, 2), (4, 3), (4, 4), (4, 5), (4, 6), (4, 7), (4, 8)] (by decide +kernel) (by decide +kernel)
set_option maxRecDepth 20000 in
theorem ggX14_read_X14_cut_wsX14_cut_r3 : GoodIn wsX14_read wsX14_cut_r3 := goodIn_rr wsB_X14_read_in _ [(4, 9), (4, 10), (4, 11), (4, 12), (4, 13), (4, 14), (4, 15), (4, 16), (4, 17), (4, 18), (4, 19), (4, 20), (4, 21), (4, 22), (4, 23), (5, 0), (5, 1), (5, 2), (5, 3), (5, 4), (5, 5), (5, 6), (5, 7), (5, 8)] (by decide +kernel) (by decide +kernel)
set_option maxRecDepth 20000 in
theorem ggX14_read_X14_cut_wsX14_cut_r4 : GoodIn wsX14_read wsX14_cut_r4 := goodIn_rr wsB_X14_read_in _ [(5, 9), (5, 10), (5, 11), (5, 12), (5, 13), (5, 14), (5, 15), (5, 16), (5, 17), (5, 18), (5, 19), (5, 20), (5, 21), (5, 22), (5, 23), (6, 0), (6, 1), (6, 2), (6, 3), (6, 4), (6, 5), (6, 6), (6, 7), (6, 8)] (by decide +kernel) (by decide +kernel)
set_option maxRecDepth 20000 in
theorem ggX14_read_X14_cut_wsX14_cut_r5 : GoodIn wsX14_read wsX14_cut_r5 := goodIn_rr wsB_X14_read_in _ [(6, 9), (6, 10), (6, 11), (6, 12), (6, 13), (6, 14), (6, 15), (6, 16), (6, 17), (6, 18), (6, 19), (6, 20), (6, 21), (6, 22), (6, 23), (7, 0), (7, 1), (7, 2), (7, 3), (7, 4), (7, 5), (7, 6), (7, 7), (7, 8)] (by decide +kernel) (by decide +kernel)
set_option maxRecDepth 20000 in
theorem ggX14_read_X14_cut_wsX14_cut_r6 : GoodIn wsX14_read wsX14_cut_r6 := goodIn_rr wsB_X14_read_in _ [(7, 9), (7, 10), (7, 11), (7, 12), (7, 13), (7, 14), (7, 15), (7, 16), (7, 17), (7, 18), (7, 19), (7, 20), (7, 21), (7, 22), (7, 23), (8, 0), (8, 1)] (by decide +kernel) (by decide +kernel)
set_option maxRecDepth 20000 in
theorem ggX14_read_X14_cut_wsX140 : GoodIn wsX14_read wsX140 := goodIn_rr wsB_X14_read_in _ [(14, 0), (14, 1), (14, 2), (14, 3), (14, 4), (14, 5), (14, 6), (14, 7), (14, 8), (14, 9), (14, 10), (14, 11), (14, 12), (14, 13), (14, 14)] (by decide +kernel) (by decide +kernel)
set_option maxRecDepth 20000 in
theorem ggX14_read_X14_cut : GoodIn wsX14_read wsX14_cut := goodIn_c1 ggX14_read_X14_cut_c (goodIn_app (goodIn_app ggX14_read_X14_cut_wsX14_cut_r1 (goodIn_app ggX14_read_X14_cut_wsX14_cut_r2 (goodIn_app ggX14_read_X14_cut_wsX14_cut_r3 (goodIn_app ggX14_read_X14_cut_wsX14_cut_r4 (goodIn_app ggX14_read_X14_cut_wsX14_cut_r5 ggX14_read_X14_cut_wsX14_cut_r6))))) ggX14_read_X14_cut_wsX140)
set_option maxRecDepth 20000 in
theorem gX14_read_X14_cut : GoodIn wsX14_read (wsV RX14 267 RX14 yX14_cut wsX14_cut) := goodIn_app (goodIn_rr wsB_X14_read_in _ [(2, 7), (2, 8), (2, 9), (2, 10)] (by decide +kernel) (by decide +kernel)) ggX14_read_X14_cut
set_option maxRecDepth 20000 in
theorem ggX14_read_X14_isText_c : GoodIn wsX14_read [.code yX14_isText cX14_isText 2 (some .boolean)] := goodIn_rr wsB_X14_read_in _ [(8, 5)] (by decide +kernel) (by decide +kernel)
set_option maxRecDepth 20000 in
theorem ggX14_read_X14_isText_wsX14_isText_r1 : GoodIn wsX14_read wsX14_isText_r1 := goodIn_rr wsB_X14_read_in _ [(8, 6), (8, 7), (8, 8), (2, 10), (8, 9), (2, 13), (1, 4), (8, 10), (8, 11), (8, 12), (8, 13), (8, 14), (8, 15), (8, 16), (8, 17), (2, 12), (8, 18), (8, 19), (8, 20), (8, 21), (8, 22), (8, 23), (9, 0), (9, 1)] (by decide +kernel) (by decide +kernel)
set_option maxRecDepth 20000 in
theorem ggX14_read_X14_isText_wsX14_isText_r2 : GoodIn wsX14_read wsX14_isText_r2 := goodIn_rr wsB_X14_read_in _ [(9, 2), (9, 3), (9, 4), (9, 5), (9, 6), (9, 7), (9, 8), (9, 9), (1, 3), (9, 10), (6, 6), (6, 3), (6, 7), (9, 11), (9, 12), (9, 13), (9, 14), (9, 15), (9, 16), (9, 17), (9, 18), (9, 19), (9, 20), (9, 21)] (by decide +kernel) (by decide +kernel)
set_option maxRecDepth 20000 in
theorem ggX14_read_X14_isText_wsX14_isText_r3 : GoodIn wsX14_read wsX14_isText_r3 := goodIn_rr wsB_X14_read_in _ [(9, 22), (9, 23), (10, 0), (10, 1), (10, 2), (1, 5), (10, 3), (10, 4), (10, 5), (10, 6), (10, 7), (10, 8), (10, 9), (10, 10), (10, 11), (10, 12), (10, 13), (10, 14), (10, 15), (10, 16), (10, 17), (10, 18), (10, 19), (10, 20)] (by decide +kernel) (by decide +kernel)
set_option maxRecDepth 20000 in
theorem ggX14_read_X14_isText_wsX14_isText_r4 : GoodIn wsX14_read wsX14_isText_r4 := goodIn_rr wsB_X14_read_in _ [(10, 21), (10, 22), (10, 23), (11, 0), (11, 1), (11, 2), (11, 3), (11, 4), (11, 5), (11, 6), (2, 14), (2, 20), (1, 6), (11, 7), (11, 8), (11, 9), (11, 10)] (by decide +kernel) (by decide +kernel)
set_option maxRecDepth 20000 in
theorem ggX14_read_X14_isText_wsX140 : GoodIn wsX14_read wsX140 := goodIn_rr wsB_X14_read_in _ [(14, 0), (14, 1), (14, 2), (14, 3), (14, 4), (14, 5), (14, 6), (14, 7), (14, 8), (14, 9), (14, 10), (14, 11), (14, 12), (14, 13), (14, 14)] (by decide +kernel) (by decide +kernel)
set_option maxRecDepth 20000 in
theorem ggX14_read_X14_isText_wsX130 : GoodIn wsX14_read wsX130 := goodIn_rr wsB_X14_read_in _ [(13, 0), (13, 1), (13, 2), (13, 3), (13, 4), (13, 5), (13, 6), (13, 7), (13, 8), (13, 9), (13, 10), (13, 11), (13, 12), (13, 13), (13, 14), (13, 15), (13, 16), (13, 17), (13, 18), (13, 19), (13, 20), (13, 21), (13, 22), (13, 23), (13, 24)] (by decide +kernel) (by decide +kernel)
set_option maxRecDepth 20000 in
theorem ggX14_read_X14_isText : GoodIn wsX14_read wsX14_isText := goodIn_c1 ggX14_read_X14_isText_c (goodIn_app (goodIn_app (goodIn_app ggX14_read_X14_isText_wsX14_isText_r1 (goodIn_app ggX14_read_X14_isText_wsX14_isText_r2 (goodIn_app ggX14_read_X14_isText_wsX14_isText_r3 ggX14_read_X14_isText_wsX14_isText_r4))) ggX14_read_X14_isText_wsX140) ggX14_read_X14_isText_wsX130)
set_option maxRecDepth 20000 in
theorem gX14_read_X14_isText : GoodIn wsX14_read (wsV RX14 270 RX14 yX14_isText wsX14_isText) := goodIn_app (goodIn_rr wsB_X14_read_in _ [(8, 2), (8, 3), (8, 4), (2, 10)] (by decide +kernel) (by decide +kernel)) ggX14_read_X14_isText
theorem k_X14_read_f39 : Cond.fieldLink RX14 39 "TideLotsModel" "reading" "LTideLotsModel$Told;" ∈ wsX14_read := by decide +kernel
theorem i_X14_read_X14 : ∀ w ∈ u_ws RX14 TX14 15, w ∈ wsX14_read := by decide +kernel
theorem i_X14_read_X13 : ∀ w ∈ u_ws RX13 TX13 25, w ∈ wsX14_read := by decide +kernel
theorem k_X14_read_f29 : Cond.fieldLink RX14 29 "TideLotsModel" "meant" "[I" ∈ wsX14_read := by decide +kernel
theorem k_X14_read_f118 : Cond.fieldLink RX14 118 "TideLotsModel" "token" "I" ∈ wsX14_read := by decide +kernel
theorem k_X14_read_f20 : Cond.fieldLink RX14 20 "TideLotsModel" "from" "[I" ∈ wsX14_read := by decide +kernel
theorem k_X14_read_f13 : Cond.fieldLink RX14 13 "TideLotsModel" "errorAt" "I" ∈ wsX14_read := by decide +kernel
theorem k_X14_read_cl32 : Cond.classLink RX14 32 RX13 ∈ wsX14_read := by decide +kernel
theorem k_X14_read_inX13 : Cond.instantiable RX13 25 ∈ wsX14_read := by decide +kernel
theorem k_X14_read_iiX13 : Cond.initialized RX13 ∈ wsX14_read := by decide +kernel
theorem kn_X14_34 : Cond.methodLinkNest "TideLotsModel" (34 : Nat) ({ cls := "TideLotsModel$Told", name := "<init>", desc := "()V" } : MethodName) "TideLotsModel" ∈ gNs := by decide +kernel
theorem k_X14_read_imX13_init : Cond.instanceMethod yX13_init ∈ wsX14_read := by decide +kernel
theorem k_X14_read_f187 : Cond.fieldLink RX14 187 "TideLotsModel" "depth" "I" ∈ wsX14_read := by decide +kernel
abbrev rX14_read : Room := { frames := 71, cells := 17, slots := 1469, locals := 2708 }
noncomputable def bb_X14_read_111 (Z : Nat → Nat) (M : gMem) (x0 : Nat) (x2 : Int32) : Option ((gMem × Int32) ⊕ (Int32 × gMem)) :=
  ck (mT M x0 = 13) <| dr ((mR M x0 12)) fun a2 => ck (mT M a2 = 12) <| (if (mI M a2 24) ≤ x2 then oI (some ((0 : Int32), M)) else dr ((mR M a2 23)) fun a5 => ck (mT M a5 = 20) <| ck (inb x2 (mL M a5)) <| ck (inb x2 (mL M a5)) <| dr ((mR M a2 21)) fun a9 => ck (mT M a9 = 20) <| ck (inb (mI M a5 x2.toNatClampNeg) (mL M a9)) <| dr ((mR M x0 8)) fun a12 => ck (mT M a12 = 20) <| ck (inb (mI M a9 ((mI M a5 x2.toNatClampNeg)).toNatClampNeg) (mL M a12)) <| ck (inb (mI M a5 x2.toNatClampNeg) (mL M a9)) <| lw (wI M a9 ((mI M a5 x2.toNatClampNeg)).toNatClampNeg ((mI M a12 ((mI M a9 ((mI M a5 x2.toNatClampNeg)).toNatClampNeg)).toNatClampNeg))) fun M16 => some (.inl (M16, (x2 + (1 : Int32)))))
noncomputable def lp_X14_read_111 (Z : Nat → Nat) (M : gMem) (x0 : Nat) (x2 : Int32) : Option (Int32 × gMem) :=
  lp (fun (q : gMem × Int32) => bb_X14_read_111 Z q.1 x0 q.2) (M, x2)
noncomputable def bb_X14_read_57 (Z : Nat → Nat) (M : gMem) (x0 : Nat) (x1 : Int32) : Option ((gMem) ⊕ (Int32 × gMem)) :=
  ck (mT M x0 = 13) <| (if x1 ≤ (mI M x0 9) then oI (lp_X14_read_111 Z M x0 ((0 : Int32))) else bd (f_X14_errorOf M x0 ((mI M x0 9))) fun r24 M24 => (if r24 = 0 then ck (mT M24 x0 = 13) <| lw (wI M24 x0 9 (((mI M24 x0 9) + (1 : Int32)))) fun M34 => some (.inl M34) else ck (mT M24 x0 = 13) <| dr ((mR M24 x0 5)) fun a26 => ck (mT M24 a26 = 20) <| ck (inb (mI M24 x0 9) (mL M24 a26)) <| lw (wI M24 x0 3 ((mI M24 a26 ((mI M24 x0 9)).toNatClampNeg))) fun M29 => oI (some (r24, M29))))
noncomputable def lp_X14_read_57 (Z : Nat → Nat) (M : gMem) (x0 : Nat) (x1 : Int32) : Option (Int32 × gMem) :=
  lp (fun (q : gMem) => bb_X14_read_57 Z q x0 x1) M
noncomputable def b_X14_read_0 (Z : Nat → Nat) (M : gMem) (x0 : Nat) : Option (Int32 × gMem) :=
  lw (nW M 12 0) fun M36 => bd (f_X13_init M36 ((mN M))) fun _ M37 => ck (mT M37 x0 = 13) <| lw (wR M37 x0 12 ((some (mN M)))) fun M39 => bd (f_X14_cut Z M39 x0) fun _ M41 => ck (mT M41 x0 = 13) <| lw (wI M41 x0 9 ((0 : Int32))) fun M43 => lw (wI M43 x0 10 ((0 : Int32))) fun M45 => bd (f_X14_isText M45 x0) fun r47 M47 => (if r47 = 0 then ck (mT M47 x0 = 13) <| dr ((mR M47 x0 5)) fun a52 => ck (mT M47 a52 = 20) <| ck (inb (mI M47 x0 9) (mL M47 a52)) <| lw (wI M47 x0 3 ((mI M47 a52 ((mI M47 x0 9)).toNatClampNeg))) fun M55 => some ((1 : Int32), M55) else ck (mT M47 x0 = 13) <| lw (wI M47 x0 9 ((0 : Int32))) fun M49 => lp_X14_read_57 Z M49 x0 ((mI M47 x0 9)))
noncomputable def f_X14_read (Z : Nat → Nat) (M : gMem) (x0 : Nat) : Option (Int32 × gMem) :=
  b_X14_read_0 Z M x0
set_option maxHeartbeats 4000000 in
set_option maxRecDepth 100000 in
theorem tb_X14_read_111 (X2 : gX p s m args meth c D cy B (gSt2 Z B H0) RX14 cX14_read wsX14_read 3) (hr : meth.sig.returnType = (some .int)) {Q : State → Prop} : ∀ (M : gMem) (x0 : Nat) (x2 : Int32) (z : (gMem × Int32) ⊕ (Int32 × gMem)), bb_X14_read_111 Z M x0 x2 = some z → (Sum.elim (fun (q : gMem × Int32) => gGo p l e rX14_read s m args below meth c D cy B H0 3 17 1469 Q 111 [(0, vR (some x0)), (2, vI q.2)] [] q.1) (fun (r : Int32 × gMem) => Q = gMQ below D cy B H0 args s 17 1469 (some (vI r.1)) r.2)) z → gGo p l e rX14_read s m args below meth c D cy B H0 3 17 1469 Q 111 [(0, vR (some x0)), (2, vI x2)] [] M := by
  intro M x0 x2 z hf hK
  unfold bb_X14_read_111 at hf
  have X := gX_w X2
  refine g_iload_n X dX14_read_111 rfl rfl ?_
  refine g_aload_n X dX14_read_112 rfl rfl ?_
  obtain ⟨hT1, hf⟩ := ck_e hf
  refine g_get (ci := 12) (v := vR (mR M x0 12)) 12 X cdX14 i_X14_read_X14 (by decide) k_X14_read_f39 rfl dX14_read_113 rfl hT1 rfl ?_
  obtain ⟨a2, ha2, hf⟩ := dr_e hf
  obtain ⟨hT3, hf⟩ := ck_e hf
  refine g_getN (ci := 11) (w := vI (mI M a2 24)) 24 X cdX13 i_X14_read_X13 (by decide) (gNw X _ kn_X14_193) rfl dX14_read_116 ha2 hT3 rfl ?_
  refine g_icmp_ge (tgt := 167) X dX14_read_119 (by decide) (fun hc => ?_) (fun hc => ?_)
  · have hf := ife_t hc hf
    refine g_iconst (v := (0 : Int32)) X dX14_read_167 (by decide) ?_
    obtain ⟨w4, hw4, hz4⟩ := oI_e hf
    subst hz4
    have hf := hw4
    cases hf
    refine g_eqQ hK ?_
    exact g_iret X hr dX14_read_168
  · have hf := ife_f hc hf
    refine g_aload_n X dX14_read_122 rfl rfl ?_
    refine g_get (ci := 12) (v := vR (mR M x0 12)) 12 X cdX14 i_X14_read_X14 (by decide) k_X14_read_f39 rfl dX14_read_123 rfl hT1 rfl ?_
    refine g_getN (ci := 11) (w := vR (mR M a2 21)) 21 X cdX13 i_X14_read_X13 (by decide) (gNw X _ kn_X14_127) rfl dX14_read_126 ha2 hT3 rfl ?_
    refine g_aload_n X dX14_read_129 rfl rfl ?_
    refine g_get (ci := 12) (v := vR (mR M x0 12)) 12 X cdX14 i_X14_read_X14 (by decide) k_X14_read_f39 rfl dX14_read_130 rfl hT1 rfl ?_
    refine g_getN (ci := 11) (w := vR (mR M a2 23)) 23 X cdX13 i_X14_read_X13 (by decide) (gNw X _ kn_X14_190) rfl dX14_read_133 ha2 hT3 rfl ?_
    refine g_iload_n X dX14_read_136 rfl rfl ?_
    obtain ⟨a5, ha5, hf⟩ := dr_e hf
    obtain ⟨hT6, hf⟩ := ck_e hf
    obtain ⟨hg7, hf⟩ := ck_e hf
    refine g_iald X dX14_read_137 ha5 hT6 hg7 ?_
    refine g_aload_n X dX14_read_138 rfl rfl ?_
    refine g_get (ci := 12) (v := vR (mR M x0 8)) 8 X cdX14 i_X14_read_X14 (by decide) k_X14_read_f29 rfl dX14_read_139 rfl hT1 rfl ?_
    refine g_aload_n X dX14_read_142 rfl rfl ?_
    refine g_get (ci := 12) (v := vR (mR M x0 12)) 12 X cdX14 i_X14_read_X14 (by decide) k_X14_read_f39 rfl dX14_read_143 rfl hT1 rfl ?_
    refine g_getN (ci := 11) (w := vR (mR M a2 21)) 21 X cdX13 i_X14_read_X13 (by decide) (gNw X _ kn_X14_127) rfl dX14_read_146 ha2 hT3 rfl ?_
    refine g_aload_n X dX14_read_149 rfl rfl ?_
    refine g_get (ci := 12) (v := vR (mR M x0 12)) 12 X cdX14 i_X14_read_X14 (by decide) k_X14_read_f39 rfl dX14_read_150 rfl hT1 rfl ?_
    refine g_getN (ci := 11) (w := vR (mR M a2 23)) 23 X cdX13 i_X14_read_X13 (by decide) (gNw X _ kn_X14_190) rfl dX14_read_153 ha2 hT3 rfl ?_
    refine g_iload_n X dX14_read_156 rfl rfl ?_
    obtain ⟨hg8, hf⟩ := ck_e hf
    refine g_iald X dX14_read_157 ha5 hT6 hg8 ?_
    obtain ⟨a9, ha9, hf⟩ := dr_e hf
    obtain ⟨hT10, hf⟩ := ck_e hf
    obtain ⟨hg11, hf⟩ := ck_e hf
    refine g_iald X dX14_read_158 ha9 hT10 hg11 ?_
    obtain ⟨a12, ha12, hf⟩ := dr_e hf
    obtain ⟨hT13, hf⟩ := ck_e hf
    obtain ⟨hg14, hf⟩ := ck_e hf
    refine g_iald X dX14_read_159 ha12 hT13 hg14 ?_
    obtain ⟨hg15, hf⟩ := ck_e hf
    refine g_iast X dX14_read_160 ha9 hT10 hg15 ?_
    obtain ⟨M16, hM16, hf⟩ := lw_e hf
    rw [← hM16]
    have hT17 : mT M16 x0 = 13 := by rw [hM16]; exact hT1
    have hT18 : mT M16 a2 = 12 := by rw [hM16]; exact hT3
    have hT19 : mT M16 a5 = 20 := by rw [hM16]; exact hT6
    have hT20 : mT M16 a9 = 20 := by rw [hM16]; exact hT10
    have hT21 : mT M16 a12 = 20 := by rw [hM16]; exact hT13
    refine g_iinc (v := (1 : Int32)) (lv' := [(2, vI (x2 + (1 : Int32))), (0, vR (some x0))]) X dX14_read_161 rfl (by decide) (by decide) rfl ?_
    refine g_goto (tgt := 111) X dX14_read_164 (by decide) ?_
    cases hf
    refine g_sub (lvsub_of _ _ [1, 0] rfl) ?_
    exact hK
set_option maxHeartbeats 4000000 in
set_option maxRecDepth 100000 in
theorem tl_X14_read_111 (X2 : gX p s m args meth c D cy B (gSt2 Z B H0) RX14 cX14_read wsX14_read 3) (hr : meth.sig.returnType = (some .int)) {Q : State → Prop} : ∀ (M : gMem) (x0 : Nat) (x2 : Int32) (z : Int32 × gMem), lp_X14_read_111 Z M x0 x2 = some z → (fun (r : Int32 × gMem) => Q = gMQ below D cy B H0 args s 17 1469 (some (vI r.1)) r.2) z → gGo p l e rX14_read s m args below meth c D cy B H0 3 17 1469 Q 111 [(0, vR (some x0)), (2, vI x2)] [] M := by
  intro M x0 x2 z hf hK
  refine lp_ind (P := (fun (q : gMem × Int32) (z : Int32 × gMem) => (fun (r : Int32 × gMem) => Q = gMQ below D cy B H0 args s 17 1469 (some (vI r.1)) r.2) z → gGo p l e rX14_read s m args below meth c D cy B H0 3 17 1469 Q 111 [(0, vR (some x0)), (2, vI q.2)] [] q.1)) (fun q z hq => ?_) _ _ hf hK
  intro hK
  obtain ⟨w, hw, hm⟩ := hq
  refine tb_X14_read_111 X2 hr _ _ _ w hw ?_
  cases w with
  | inl a => exact hm hK
  | inr b => cases hm; exact hK
set_option maxHeartbeats 4000000 in
set_option maxRecDepth 100000 in
theorem tb_X14_read_57 (X2 : gX p s m args meth c D cy B (gSt2 Z B H0) RX14 cX14_read wsX14_read 3) (hr : meth.sig.returnType = (some .int)) {Q : State → Prop} : ∀ (M : gMem) (x0 : Nat) (x1 : Int32) (z : (gMem) ⊕ (Int32 × gMem)), bb_X14_read_57 Z M x0 x1 = some z → (Sum.elim (fun (q : gMem) => gGo p l e rX14_read s m args below meth c D cy B H0 3 17 1469 Q 57 [(0, vR (some x0)), (1, vI x1)] [] q) (fun (r : Int32 × gMem) => Q = gMQ below D cy B H0 args s 17 1469 (some (vI r.1)) r.2)) z → gGo p l e rX14_read s m args below meth c D cy B H0 3 17 1469 Q 57 [(0, vR (some x0)), (1, vI x1)] [] M := by
  intro M x0 x1 z hf hK
  unfold bb_X14_read_57 at hf
  have X := gX_w X2
  refine g_aload_n X dX14_read_57 rfl rfl ?_
  obtain ⟨hT22, hf⟩ := ck_e hf
  refine g_get (ci := 12) (v := vI (mI M x0 9)) 9 X cdX14 i_X14_read_X14 (by decide) k_X14_read_f118 rfl dX14_read_58 rfl hT22 rfl ?_
  refine g_iload_n X dX14_read_61 rfl rfl ?_
  refine g_icmp_ge (tgt := 109) X dX14_read_62 (by decide) (fun hc => ?_) (fun hc => ?_)
  · have hf := ife_t hc hf
    refine g_iconst (v := (0 : Int32)) X dX14_read_109 (by decide) ?_
    refine g_istore_n (lv' := [(2, vI (0 : Int32)), (0, vR (some x0)), (1, vI x1)]) X dX14_read_110 rfl (by decide) rfl ?_
    obtain ⟨w23, hw23, hz23⟩ := oI_e hf
    subst hz23
    have hf := hw23
    refine g_sub (lvsub_of _ _ [1, 0] rfl) ?_
    exact tl_X14_read_111 X2 hr _ _ _ _ hf hK
  · have hf := ife_f hc hf
    refine g_aload_n X dX14_read_65 rfl rfl ?_
    refine g_aload_n X dX14_read_66 rfl rfl ?_
    refine g_get (ci := 12) (v := vI (mI M x0 9)) 9 X cdX14 i_X14_read_X14 (by decide) k_X14_read_f118 rfl dX14_read_67 rfl hT22 rfl ?_
    obtain ⟨r24, M24, hq24, hf⟩ := bd_e hf
    refine g_callV (ci := 12) (b := x0) (As := [vI (mI M x0 9)]) (st := []) (v := some (vI r24)) (M1 := M24) X (m_X14_errorOf l hq24) (cwV 1 X.2.2.1 gX14_read_X14_errorOf rfl rfl rfl (by decide +kernel) ⟨Nat.le_of_ble_eq_true rfl, Nat.le_of_ble_eq_true rfl⟩) rfl rfl rfl hT22 (by decide) rfl (Nat.le_of_ble_eq_true rfl) dX14_read_70 ⟨by decide, by decide⟩ ?_
    refine g_istore_n (lv' := [(2, vI r24), (0, vR (some x0)), (1, vI x1)]) X dX14_read_73 rfl (by decide) rfl ?_
    refine g_iload_n X dX14_read_74 rfl rfl ?_
    refine g_if_ne (tgt := 81) X dX14_read_75 (by decide) (fun hc => ?_) (fun hc => ?_)
    · have hf := ife_f hc hf
      refine g_aload_n X dX14_read_81 rfl rfl ?_
      refine g_aload_n X dX14_read_82 rfl rfl ?_
      obtain ⟨hT25, hf⟩ := ck_e hf
      refine g_get (ci := 12) (v := vR (mR M24 x0 5)) 5 X cdX14 i_X14_read_X14 (by decide) k_X14_read_f20 rfl dX14_read_83 rfl hT25 rfl ?_
      refine g_aload_n X dX14_read_86 rfl rfl ?_
      refine g_get (ci := 12) (v := vI (mI M24 x0 9)) 9 X cdX14 i_X14_read_X14 (by decide) k_X14_read_f118 rfl dX14_read_87 rfl hT25 rfl ?_
      obtain ⟨a26, ha26, hf⟩ := dr_e hf
      obtain ⟨hT27, hf⟩ := ck_e hf
      obtain ⟨hg28, hf⟩ := ck_e hf
      refine g_iald X dX14_read_90 ha26 hT27 hg28 ?_
      refine g_putI (ci := 12) 3 X cdX14 i_X14_read_X14 (by decide) k_X14_read_f13 rfl dX14_read_91 rfl hT25 (Or.inl rfl) rfl rfl rfl ?_
      obtain ⟨M29, hM29, hf⟩ := lw_e hf
      rw [← hM29]
      have hT30 : mT M29 x0 = 13 := by rw [hM29]; exact hT25
      have hT31 : mT M29 a26 = 20 := by rw [hM29]; exact hT27
      refine g_iload_n X dX14_read_94 rfl rfl ?_
      obtain ⟨w32, hw32, hz32⟩ := oI_e hf
      subst hz32
      have hf := hw32
      cases hf
      refine g_eqQ hK ?_
      exact g_iret X hr dX14_read_95
    · have hf := ife_t hc hf
      refine g_goto (tgt := 96) X dX14_read_78 (by decide) ?_
      refine g_aload_n X dX14_read_96 rfl rfl ?_
      refine g_dup X dX14_read_97 rfl ?_
      obtain ⟨hT33, hf⟩ := ck_e hf
      refine g_get (ci := 12) (v := vI (mI M24 x0 9)) 9 X cdX14 i_X14_read_X14 (by decide) k_X14_read_f118 rfl dX14_read_98 rfl hT33 rfl ?_
      refine g_iconst (v := (1 : Int32)) X dX14_read_101 (by decide) ?_
      refine g_iadd X dX14_read_102 ?_
      refine g_putI (ci := 12) 9 X cdX14 i_X14_read_X14 (by decide) k_X14_read_f118 rfl dX14_read_103 rfl hT33 (Or.inl rfl) rfl rfl rfl ?_
      obtain ⟨M34, hM34, hf⟩ := lw_e hf
      rw [← hM34]
      have hT35 : mT M34 x0 = 13 := by rw [hM34]; exact hT33
      refine g_goto (tgt := 57) X dX14_read_106 (by decide) ?_
      cases hf
      refine g_sub (lvsub_of _ _ [1, 2] rfl) ?_
      exact hK
set_option maxHeartbeats 4000000 in
set_option maxRecDepth 100000 in
theorem tl_X14_read_57 (X2 : gX p s m args meth c D cy B (gSt2 Z B H0) RX14 cX14_read wsX14_read 3) (hr : meth.sig.returnType = (some .int)) {Q : State → Prop} : ∀ (M : gMem) (x0 : Nat) (x1 : Int32) (z : Int32 × gMem), lp_X14_read_57 Z M x0 x1 = some z → (fun (r : Int32 × gMem) => Q = gMQ below D cy B H0 args s 17 1469 (some (vI r.1)) r.2) z → gGo p l e rX14_read s m args below meth c D cy B H0 3 17 1469 Q 57 [(0, vR (some x0)), (1, vI x1)] [] M := by
  intro M x0 x1 z hf hK
  refine lp_ind (P := (fun (q : gMem) (z : Int32 × gMem) => (fun (r : Int32 × gMem) => Q = gMQ below D cy B H0 args s 17 1469 (some (vI r.1)) r.2) z → gGo p l e rX14_read s m args below meth c D cy B H0 3 17 1469 Q 57 [(0, vR (some x0)), (1, vI x1)] [] q)) (fun q z hq => ?_) _ _ hf hK
  intro hK
  obtain ⟨w, hw, hm⟩ := hq
  refine tb_X14_read_57 X2 hr _ _ _ w hw ?_
  cases w with
  | inl a => exact hm hK
  | inr b => cases hm; exact hK
set_option maxHeartbeats 4000000 in
set_option maxRecDepth 100000 in
theorem t_X14_read_0 (X2 : gX p s m args meth c D cy B (gSt2 Z B H0) RX14 cX14_read wsX14_read 3) (hr : meth.sig.returnType = (some .int)) {Q : State → Prop} : ∀ (M : gMem) (x0 : Nat) (z : Int32 × gMem), b_X14_read_0 Z M x0 = some z → (fun (r : Int32 × gMem) => Q = gMQ below D cy B H0 args s 17 1469 (some (vI r.1)) r.2) z → gGo p l e rX14_read s m args below meth c D cy B H0 3 0 0 Q 0 [(0, vR (some x0))] [] M := by
  intro M x0 z hf hK
  unfold b_X14_read_0 at hf
  have X := gX_w X2
  refine g_aload_n X dX14_read_0 rfl rfl ?_
  refine g_new (ci := 11) X cdX13 i_X14_read_X13 k_X14_read_cl32 k_X14_read_inX13 k_X14_read_iiX13 (by intro i hi; rcases (show i = 0 ∨ i = 1 ∨ i = 2 ∨ i = 3 ∨ i = 4 ∨ i = 5 ∨ i = 6 ∨ i = 7 ∨ i = 8 ∨ i = 9 ∨ i = 10 ∨ i = 11 ∨ i = 12 ∨ i = 13 ∨ i = 14 ∨ i = 15 ∨ i = 16 ∨ i = 17 ∨ i = 18 ∨ i = 19 ∨ i = 20 ∨ i = 21 ∨ i = 22 ∨ i = 23 ∨ i = 24 by omega) with rfl | rfl | rfl | rfl | rfl | rfl | rfl | rfl | rfl | rfl | rfl | rfl | rfl | rfl | rfl | rfl | rfl | rfl | rfl | rfl | rfl | rfl | rfl | rfl | rfl <;> rfl) ⟨by decide, by decide⟩ dX14_read_1 ?_
  obtain ⟨M36, hM36, hf⟩ := lw_e hf
  rw [← hM36]
  refine g_dup X dX14_read_4 rfl ?_
  obtain ⟨r37, M37, hq37, hf⟩ := bd_e hf
  refine g_callIN (b := (mN M)) (As := []) (st := [vR (some (mN M)), vR (some x0)]) (M1 := M37) X (m_X13_init l hq37) ⟨va_cnB 0 X.2.2.1 gX14_read_X13_init_n34 rfl rfl rfl (gNw X _ kn_X14_34) (X.2.2.1 _ k_X14_read_iiX13) (by decide +kernel) ⟨Nat.le_of_ble_eq_true rfl, Nat.le_of_ble_eq_true rfl⟩, rfl, X.2.2.1 _ k_X14_read_imX13_init⟩ rfl rfl rfl (Nat.le_of_ble_eq_true rfl) dX14_read_5 ⟨by decide, by decide⟩ ?_
  obtain ⟨hT38, hf⟩ := ck_e hf
  refine g_putR (ci := 12) 12 X cdX14 i_X14_read_X14 (by decide) k_X14_read_f39 rfl dX14_read_8 rfl hT38 (Or.inl rfl) (gnO _ _) (gfO _ _) rfl ?_
  obtain ⟨M39, hM39, hf⟩ := lw_e hf
  rw [← hM39]
  have hT40 : mT M39 x0 = 13 := by rw [hM39]; exact hT38
  refine g_aload_n X dX14_read_11 rfl rfl ?_
  obtain ⟨r41, M41, hq41, hf⟩ := bd_e hf
  refine g_callV (ci := 12) (b := x0) (As := []) (st := []) (v := none) (M1 := M41) X2 (m_X14_cut l hq41) (cwV 0 X.2.2.1 gX14_read_X14_cut rfl rfl rfl (by decide +kernel) ⟨Nat.le_of_ble_eq_true rfl, Nat.le_of_ble_eq_true rfl⟩) rfl rfl rfl hT40 (by decide) rfl (Nat.le_of_ble_eq_true rfl) dX14_read_12 ⟨by decide, by decide⟩ ?_
  refine g_aload_n X dX14_read_15 rfl rfl ?_
  refine g_iconst (v := (0 : Int32)) X dX14_read_16 (by decide) ?_
  obtain ⟨hT42, hf⟩ := ck_e hf
  refine g_putI (ci := 12) 9 X cdX14 i_X14_read_X14 (by decide) k_X14_read_f118 rfl dX14_read_17 rfl hT42 (Or.inl rfl) rfl rfl rfl ?_
  obtain ⟨M43, hM43, hf⟩ := lw_e hf
  rw [← hM43]
  have hT44 : mT M43 x0 = 13 := by rw [hM43]; exact hT42
  refine g_aload_n X dX14_read_20 rfl rfl ?_
  refine g_iconst (v := (0 : Int32)) X dX14_read_21 (by decide) ?_
  refine g_putI (ci := 12) 10 X cdX14 i_X14_read_X14 (by decide) k_X14_read_f187 rfl dX14_read_22 rfl hT44 (Or.inl rfl) rfl rfl rfl ?_
  obtain ⟨M45, hM45, hf⟩ := lw_e hf
  rw [← hM45]
  have hT46 : mT M45 x0 = 13 := by rw [hM45]; exact hT44
  refine g_aload_n X dX14_read_25 rfl rfl ?_
  obtain ⟨r47, M47, hq47, hf⟩ := bd_e hf
  refine g_callV (ci := 12) (b := x0) (As := []) (st := []) (v := some (vI r47)) (M1 := M47) X (m_X14_isText l hq47) (cwV 0 X.2.2.1 gX14_read_X14_isText rfl rfl rfl (by decide +kernel) ⟨Nat.le_of_ble_eq_true rfl, Nat.le_of_ble_eq_true rfl⟩) rfl rfl rfl hT46 (by decide) rfl (Nat.le_of_ble_eq_true rfl) dX14_read_26 ⟨by decide, by decide⟩ ?_
  refine g_if_ne (tgt := 47) X dX14_read_29 (by decide) (fun hc => ?_) (fun hc => ?_)
  · have hf := ife_f hc hf
    refine g_aload_n X dX14_read_47 rfl rfl ?_
    obtain ⟨hT48, hf⟩ := ck_e hf
    refine g_get (ci := 12) (v := vI (mI M47 x0 9)) 9 X cdX14 i_X14_read_X14 (by decide) k_X14_read_f118 rfl dX14_read_48 rfl hT48 rfl ?_
    refine g_istore_n (lv' := [(1, vI (mI M47 x0 9)), (0, vR (some x0))]) X dX14_read_51 rfl (by decide) rfl ?_
    refine g_aload_n X dX14_read_52 rfl rfl ?_
    refine g_iconst (v := (0 : Int32)) X dX14_read_53 (by decide) ?_
    refine g_putI (ci := 12) 9 X cdX14 i_X14_read_X14 (by decide) k_X14_read_f118 rfl dX14_read_54 rfl hT48 (Or.inl rfl) rfl rfl rfl ?_
    obtain ⟨M49, hM49, hf⟩ := lw_e hf
    rw [← hM49]
    have hT50 : mT M49 x0 = 13 := by rw [hM49]; exact hT48
    refine g_sub (lvsub_of _ _ [1, 0] rfl) ?_
    exact tl_X14_read_57 X2 hr _ _ _ _ hf hK
  · have hf := ife_t hc hf
    refine g_aload_n X dX14_read_32 rfl rfl ?_
    refine g_aload_n X dX14_read_33 rfl rfl ?_
    obtain ⟨hT51, hf⟩ := ck_e hf
    refine g_get (ci := 12) (v := vR (mR M47 x0 5)) 5 X cdX14 i_X14_read_X14 (by decide) k_X14_read_f20 rfl dX14_read_34 rfl hT51 rfl ?_
    refine g_aload_n X dX14_read_37 rfl rfl ?_
    refine g_get (ci := 12) (v := vI (mI M47 x0 9)) 9 X cdX14 i_X14_read_X14 (by decide) k_X14_read_f118 rfl dX14_read_38 rfl hT51 rfl ?_
    obtain ⟨a52, ha52, hf⟩ := dr_e hf
    obtain ⟨hT53, hf⟩ := ck_e hf
    obtain ⟨hg54, hf⟩ := ck_e hf
    refine g_iald X dX14_read_41 ha52 hT53 hg54 ?_
    refine g_putI (ci := 12) 3 X cdX14 i_X14_read_X14 (by decide) k_X14_read_f13 rfl dX14_read_42 rfl hT51 (Or.inl rfl) rfl rfl rfl ?_
    obtain ⟨M55, hM55, hf⟩ := lw_e hf
    rw [← hM55]
    have hT56 : mT M55 x0 = 13 := by rw [hM55]; exact hT51
    have hT57 : mT M55 a52 = 20 := by rw [hM55]; exact hT53
    refine g_iconst (v := (1 : Int32)) X dX14_read_45 (by decide) ?_
    cases hf
    refine g_eqQ hK ?_
    exact g_iret X hr dX14_read_46
set_option maxHeartbeats 4000000 in
set_option maxRecDepth 100000 in
theorem m_X14_read (l : Launch) {D : va_G} {cy : Nat → ClassId} {B : Nat} {H0 : Heap} {Z : Nat → Nat} {M M1 : gMem} {x0 : Nat} {r : Int32} (hf : f_X14_read Z M x0 = some (r, M1)) : Met l yX14_read wsX14_read rX14_read (va_Pc (Value.ref x0 :: List.map gv []) (gPre D cy B H0 (gSt2 Z B H0) M)) (gQ D cy B H0 (some (vI r)) M1) 17 1469 (gA B) := by
  refine Met.ofW (cc := cX14_read) (maxL := 3) (ret := (some .int)) (by decide) rfl ?_
  intro p e s m args below meth c s₁ Bd hml hv
  obtain ⟨rfl, hW, hKK, hFs⟩ := hv
  have X2 : gX p s m _ meth c D cy B (gSt2 Z B H0) RX14 cX14_read wsX14_read 3 := ⟨Bd.exec, Bd.bytes, atoms_spec (ws := wsX14_read) Bd.pre, findClass_of_methodNamed Bd.named, hml, hKK, by rw [hW.1]; exact hW.2.1, Bd.notSynchronized, hFs⟩
  have hr := Bd.returns
  have hl := lv_entry ([.ref x0]) (n := 3) (Nat.le_of_ble_eq_true rfl)
  show W p l e rX14_read s m _ below meth c s.heap [] 0 0 _ (entryFrame m ([.ref x0] : List Value).toArray 3)
  rw [lg_entry_eq]
  generalize (lg_sl ([.ref x0]) ++ List.replicate (3 - (lg_sl ([.ref x0])).length) Slot.unset).toArray = ls at hl ⊢
  have hl : lv_has ls 3 (List.map gq [(0, vR (some x0))]) := hl
  exact t_X14_read_0 X2 hr _ _ _ hf rfl s.heap [] ls hW va_S.rf (lv_has_sub hl (lvsub_of _ _ [0] rfl))
end
