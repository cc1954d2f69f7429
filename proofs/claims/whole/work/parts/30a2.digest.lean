section
variable {p : Program} {l : Launch} {e : Env} {s : State} {m : MethodId} {args : Array Value} {below : List Frame} {meth : Method} {c : Code} {D : va_G} {cy : Nat → ClassId} {B : Nat} {H0 : Heap} {Z : Nat → Nat}
/-! ## TideLots.digest()J -/
theorem dX11_digest_0 : decode cX11_digest 0 = .ok (.ldc2_w 223, 3) := by decide +kernel
theorem dX11_digest_3 : decode cX11_digest 3 = .ok (.lstore_n 1, 1) := by decide +kernel
theorem dX11_digest_4 : decode cX11_digest 4 = .ok (.iconst 0, 1) := by decide +kernel
theorem dX11_digest_5 : decode cX11_digest 5 = .ok (.istore_n 3, 1) := by decide +kernel
theorem dX11_digest_6 : decode cX11_digest 6 = .ok (.iload_n 3, 1) := by decide +kernel
theorem dX11_digest_7 : decode cX11_digest 7 = .ok (.bipush 9, 2) := by decide +kernel
theorem dX11_digest_9 : decode cX11_digest 9 = .ok (.if_icmp .gt 22, 3) := by decide +kernel
theorem dX11_digest_12 : decode cX11_digest 12 = .ok (.lload_n 1, 1) := by decide +kernel
theorem dX11_digest_13 : decode cX11_digest 13 = .ok (.ldc2_w 225, 3) := by decide +kernel
theorem dX11_digest_16 : decode cX11_digest 16 = .ok (.lmul, 1) := by decide +kernel
theorem dX11_digest_17 : decode cX11_digest 17 = .ok (.aload_n 0, 1) := by decide +kernel
theorem dX11_digest_18 : decode cX11_digest 18 = .ok (.iload_n 3, 1) := by decide +kernel
theorem dX11_digest_19 : decode cX11_digest 19 = .ok (.invokevirtual 227, 3) := by decide +kernel
theorem dX11_digest_22 : decode cX11_digest 22 = .ok (.i2l, 1) := by decide +kernel
theorem dX11_digest_23 : decode cX11_digest 23 = .ok (.ladd, 1) := by decide +kernel
theorem dX11_digest_24 : decode cX11_digest 24 = .ok (.lstore_n 1, 1) := by decide +kernel
theorem dX11_digest_25 : decode cX11_digest 25 = .ok (.iinc 3 1, 3) := by decide +kernel
theorem dX11_digest_28 : decode cX11_digest 28 = .ok (.goto (-22), 3) := by decide +kernel
theorem dX11_digest_31 : decode cX11_digest 31 = .ok (.iconst 0, 1) := by decide +kernel
theorem dX11_digest_32 : decode cX11_digest 32 = .ok (.istore_n 3, 1) := by decide +kernel
theorem dX11_digest_33 : decode cX11_digest 33 = .ok (.iload_n 3, 1) := by decide +kernel
theorem dX11_digest_34 : decode cX11_digest 34 = .ok (.aload_n 0, 1) := by decide +kernel
theorem dX11_digest_35 : decode cX11_digest 35 = .ok (.getfield 19, 3) := by decide +kernel
theorem dX11_digest_38 : decode cX11_digest 38 = .ok (.getfield 68, 3) := by decide +kernel
theorem dX11_digest_41 : decode cX11_digest 41 = .ok (.if_icmp .ge 76, 3) := by decide +kernel
theorem dX11_digest_44 : decode cX11_digest 44 = .ok (.iconst 0, 1) := by decide +kernel
theorem dX11_digest_45 : decode cX11_digest 45 = .ok (.istore 4, 2) := by decide +kernel
theorem dX11_digest_47 : decode cX11_digest 47 = .ok (.iload 4, 2) := by decide +kernel
theorem dX11_digest_49 : decode cX11_digest 49 = .ok (.bipush 8, 2) := by decide +kernel
theorem dX11_digest_51 : decode cX11_digest 51 = .ok (.if_icmp .gt 24, 3) := by decide +kernel
theorem dX11_digest_54 : decode cX11_digest 54 = .ok (.lload_n 1, 1) := by decide +kernel
theorem dX11_digest_55 : decode cX11_digest 55 = .ok (.ldc2_w 225, 3) := by decide +kernel
theorem dX11_digest_58 : decode cX11_digest 58 = .ok (.lmul, 1) := by decide +kernel
theorem dX11_digest_59 : decode cX11_digest 59 = .ok (.aload_n 0, 1) := by decide +kernel
theorem dX11_digest_60 : decode cX11_digest 60 = .ok (.iload_n 3, 1) := by decide +kernel
theorem dX11_digest_61 : decode cX11_digest 61 = .ok (.iload 4, 2) := by decide +kernel
theorem dX11_digest_63 : decode cX11_digest 63 = .ok (.invokevirtual 230, 3) := by decide +kernel
theorem dX11_digest_66 : decode cX11_digest 66 = .ok (.i2l, 1) := by decide +kernel
theorem dX11_digest_67 : decode cX11_digest 67 = .ok (.ladd, 1) := by decide +kernel
theorem dX11_digest_68 : decode cX11_digest 68 = .ok (.lstore_n 1, 1) := by decide +kernel
theorem dX11_digest_69 : decode cX11_digest 69 = .ok (.iinc 4 1, 3) := by decide +kernel
theorem dX11_digest_72 : decode cX11_digest 72 = .ok (.goto (-25), 3) := by decide +kernel
theorem dX11_digest_75 : decode cX11_digest 75 = .ok (.iconst 0, 1) := by decide +kernel
theorem dX11_digest_76 : decode cX11_digest 76 = .ok (.istore 4, 2) := by decide +kernel
theorem dX11_digest_78 : decode cX11_digest 78 = .ok (.iload 4, 2) := by decide +kernel
theorem dX11_digest_80 : decode cX11_digest 80 = .ok (.aload_n 0, 1) := by decide +kernel
theorem dX11_digest_81 : decode cX11_digest 81 = .ok (.getfield 19, 3) := by decide +kernel
theorem dX11_digest_84 : decode cX11_digest 84 = .ok (.getfield 71, 3) := by decide +kernel
theorem dX11_digest_87 : decode cX11_digest 87 = .ok (.if_icmp .ge 24, 3) := by decide +kernel
theorem dX11_digest_90 : decode cX11_digest 90 = .ok (.lload_n 1, 1) := by decide +kernel
theorem dX11_digest_91 : decode cX11_digest 91 = .ok (.ldc2_w 225, 3) := by decide +kernel
theorem dX11_digest_94 : decode cX11_digest 94 = .ok (.lmul, 1) := by decide +kernel
theorem dX11_digest_95 : decode cX11_digest 95 = .ok (.aload_n 0, 1) := by decide +kernel
theorem dX11_digest_96 : decode cX11_digest 96 = .ok (.iload_n 3, 1) := by decide +kernel
theorem dX11_digest_97 : decode cX11_digest 97 = .ok (.iload 4, 2) := by decide +kernel
theorem dX11_digest_99 : decode cX11_digest 99 = .ok (.invokevirtual 233, 3) := by decide +kernel
theorem dX11_digest_102 : decode cX11_digest 102 = .ok (.i2l, 1) := by decide +kernel
theorem dX11_digest_103 : decode cX11_digest 103 = .ok (.ladd, 1) := by decide +kernel
theorem dX11_digest_104 : decode cX11_digest 104 = .ok (.lstore_n 1, 1) := by decide +kernel
theorem dX11_digest_105 : decode cX11_digest 105 = .ok (.iinc 4 1, 3) := by decide +kernel
theorem dX11_digest_108 : decode cX11_digest 108 = .ok (.goto (-30), 3) := by decide +kernel
theorem dX11_digest_111 : decode cX11_digest 111 = .ok (.iinc 3 1, 3) := by decide +kernel
theorem dX11_digest_114 : decode cX11_digest 114 = .ok (.goto (-81), 3) := by decide +kernel
theorem dX11_digest_117 : decode cX11_digest 117 = .ok (.iconst 0, 1) := by decide +kernel
theorem dX11_digest_118 : decode cX11_digest 118 = .ok (.istore_n 3, 1) := by decide +kernel
theorem dX11_digest_119 : decode cX11_digest 119 = .ok (.iload_n 3, 1) := by decide +kernel
theorem dX11_digest_120 : decode cX11_digest 120 = .ok (.aload_n 0, 1) := by decide +kernel
theorem dX11_digest_121 : decode cX11_digest 121 = .ok (.getfield 19, 3) := by decide +kernel
theorem dX11_digest_124 : decode cX11_digest 124 = .ok (.getfield 71, 3) := by decide +kernel
theorem dX11_digest_127 : decode cX11_digest 127 = .ok (.if_icmp .ge 40, 3) := by decide +kernel
theorem dX11_digest_130 : decode cX11_digest 130 = .ok (.iconst 0, 1) := by decide +kernel
theorem dX11_digest_131 : decode cX11_digest 131 = .ok (.istore 4, 2) := by decide +kernel
theorem dX11_digest_133 : decode cX11_digest 133 = .ok (.iload 4, 2) := by decide +kernel
theorem dX11_digest_135 : decode cX11_digest 135 = .ok (.bipush 9, 2) := by decide +kernel
theorem dX11_digest_137 : decode cX11_digest 137 = .ok (.if_icmp .gt 24, 3) := by decide +kernel
theorem dX11_digest_140 : decode cX11_digest 140 = .ok (.lload_n 1, 1) := by decide +kernel
theorem dX11_digest_141 : decode cX11_digest 141 = .ok (.ldc2_w 225, 3) := by decide +kernel
theorem dX11_digest_144 : decode cX11_digest 144 = .ok (.lmul, 1) := by decide +kernel
theorem dX11_digest_145 : decode cX11_digest 145 = .ok (.aload_n 0, 1) := by decide +kernel
theorem dX11_digest_146 : decode cX11_digest 146 = .ok (.iload_n 3, 1) := by decide +kernel
theorem dX11_digest_147 : decode cX11_digest 147 = .ok (.iload 4, 2) := by decide +kernel
theorem dX11_digest_149 : decode cX11_digest 149 = .ok (.invokevirtual 235, 3) := by decide +kernel
theorem dX11_digest_152 : decode cX11_digest 152 = .ok (.i2l, 1) := by decide +kernel
theorem dX11_digest_153 : decode cX11_digest 153 = .ok (.ladd, 1) := by decide +kernel
theorem dX11_digest_154 : decode cX11_digest 154 = .ok (.lstore_n 1, 1) := by decide +kernel
theorem dX11_digest_155 : decode cX11_digest 155 = .ok (.iinc 4 1, 3) := by decide +kernel
theorem dX11_digest_158 : decode cX11_digest 158 = .ok (.goto (-25), 3) := by decide +kernel
theorem dX11_digest_161 : decode cX11_digest 161 = .ok (.iinc 3 1, 3) := by decide +kernel
theorem dX11_digest_164 : decode cX11_digest 164 = .ok (.goto (-45), 3) := by decide +kernel
theorem dX11_digest_167 : decode cX11_digest 167 = .ok (.iconst 0, 1) := by decide +kernel
theorem dX11_digest_168 : decode cX11_digest 168 = .ok (.istore_n 3, 1) := by decide +kernel
theorem dX11_digest_169 : decode cX11_digest 169 = .ok (.iload_n 3, 1) := by decide +kernel
theorem dX11_digest_170 : decode cX11_digest 170 = .ok (.aload_n 0, 1) := by decide +kernel
theorem dX11_digest_171 : decode cX11_digest 171 = .ok (.getfield 19, 3) := by decide +kernel
theorem dX11_digest_174 : decode cX11_digest 174 = .ok (.getfield 77, 3) := by decide +kernel
theorem dX11_digest_177 : decode cX11_digest 177 = .ok (.if_icmp .ge 40, 3) := by decide +kernel
theorem dX11_digest_180 : decode cX11_digest 180 = .ok (.iconst 0, 1) := by decide +kernel
theorem dX11_digest_181 : decode cX11_digest 181 = .ok (.istore 4, 2) := by decide +kernel
theorem dX11_digest_183 : decode cX11_digest 183 = .ok (.iload 4, 2) := by decide +kernel
theorem dX11_digest_185 : decode cX11_digest 185 = .ok (.bipush 6, 2) := by decide +kernel
theorem dX11_digest_187 : decode cX11_digest 187 = .ok (.if_icmp .gt 24, 3) := by decide +kernel
theorem dX11_digest_190 : decode cX11_digest 190 = .ok (.lload_n 1, 1) := by decide +kernel
theorem dX11_digest_191 : decode cX11_digest 191 = .ok (.ldc2_w 225, 3) := by decide +kernel
theorem dX11_digest_194 : decode cX11_digest 194 = .ok (.lmul, 1) := by decide +kernel
theorem dX11_digest_195 : decode cX11_digest 195 = .ok (.aload_n 0, 1) := by decide +kernel
theorem dX11_digest_196 : decode cX11_digest 196 = .ok (.iload_n 3, 1) := by decide +kernel
theorem dX11_digest_197 : decode cX11_digest 197 = .ok (.iload 4, 2) := by decide +kernel
theorem dX11_digest_199 : decode cX11_digest 199 = .ok (.invokevirtual 238, 3) := by decide +kernel
theorem dX11_digest_202 : decode cX11_digest 202 = .ok (.i2l, 1) := by decide +kernel
theorem dX11_digest_203 : decode cX11_digest 203 = .ok (.ladd, 1) := by decide +kernel
theorem dX11_digest_204 : decode cX11_digest 204 = .ok (.lstore_n 1, 1) := by decide +kernel
theorem dX11_digest_205 : decode cX11_digest 205 = .ok (.iinc 4 1, 3) := by decide +kernel
theorem dX11_digest_208 : decode cX11_digest 208 = .ok (.goto (-25), 3) := by decide +kernel
theorem dX11_digest_211 : decode cX11_digest 211 = .ok (.iinc 3 1, 3) := by decide +kernel
theorem dX11_digest_214 : decode cX11_digest 214 = .ok (.goto (-45), 3) := by decide +kernel
theorem dX11_digest_217 : decode cX11_digest 217 = .ok (.aload_n 0, 1) := by decide +kernel
theorem dX11_digest_218 : decode cX11_digest 218 = .ok (.getfield 19, 3) := by decide +kernel
theorem dX11_digest_221 : decode cX11_digest 221 = .ok (.invokevirtual 197, 3) := by decide +kernel
theorem dX11_digest_224 : decode cX11_digest 224 = .ok (.pop, 1) := by decide +kernel
theorem dX11_digest_225 : decode cX11_digest 225 = .ok (.iconst 0, 1) := by decide +kernel
theorem dX11_digest_226 : decode cX11_digest 226 = .ok (.istore_n 3, 1) := by decide +kernel
theorem dX11_digest_227 : decode cX11_digest 227 = .ok (.iload_n 3, 1) := by decide +kernel
theorem dX11_digest_228 : decode cX11_digest 228 = .ok (.aload_n 0, 1) := by decide +kernel
theorem dX11_digest_229 : decode cX11_digest 229 = .ok (.getfield 19, 3) := by decide +kernel
theorem dX11_digest_232 : decode cX11_digest 232 = .ok (.getfield 71, 3) := by decide +kernel
theorem dX11_digest_235 : decode cX11_digest 235 = .ok (.if_icmp .ge 26, 3) := by decide +kernel
theorem dX11_digest_238 : decode cX11_digest 238 = .ok (.lload_n 1, 1) := by decide +kernel
theorem dX11_digest_239 : decode cX11_digest 239 = .ok (.ldc2_w 225, 3) := by decide +kernel
theorem dX11_digest_242 : decode cX11_digest 242 = .ok (.lmul, 1) := by decide +kernel
theorem dX11_digest_243 : decode cX11_digest 243 = .ok (.aload_n 0, 1) := by decide +kernel
theorem dX11_digest_244 : decode cX11_digest 244 = .ok (.getfield 19, 3) := by decide +kernel
theorem dX11_digest_247 : decode cX11_digest 247 = .ok (.getfield 200, 3) := by decide +kernel
theorem dX11_digest_250 : decode cX11_digest 250 = .ok (.iload_n 3, 1) := by decide +kernel
theorem dX11_digest_251 : decode cX11_digest 251 = .ok (.iaload, 1) := by decide +kernel
theorem dX11_digest_252 : decode cX11_digest 252 = .ok (.i2l, 1) := by decide +kernel
theorem dX11_digest_253 : decode cX11_digest 253 = .ok (.ladd, 1) := by decide +kernel
theorem dX11_digest_254 : decode cX11_digest 254 = .ok (.lstore_n 1, 1) := by decide +kernel
theorem dX11_digest_255 : decode cX11_digest 255 = .ok (.iinc 3 1, 3) := by decide +kernel
theorem dX11_digest_258 : decode cX11_digest 258 = .ok (.goto (-31), 3) := by decide +kernel
theorem dX11_digest_261 : decode cX11_digest 261 = .ok (.lload_n 1, 1) := by decide +kernel
theorem dX11_digest_262 : decode cX11_digest 262 = .ok (.lreturn, 1) := by decide +kernel
set_option maxRecDepth 20000 in
theorem ggX11_digest_X11_pact : GoodIn wsX11_digest wsX11_pact := goodIn_ca (goodIn_2 24 (goodIn_rr wsB_X11_digest_in _ [(4, 18), (1, 12), (1, 13), (1, 2), (1, 5), (4, 19), (4, 20), (4, 21), (4, 22), (4, 23), (5, 0), (5, 1), (5, 2), (5, 3), (5, 4), (5, 5), (5, 6), (5, 7), (6, 0), (6, 1), (6, 2), (6, 3), (7, 0), (7, 1)] (by decide +kernel) (by decide +kernel)) (goodIn_rr wsB_X11_digest_in _ [(7, 2), (7, 3), (7, 4), (7, 5), (7, 6), (7, 7), (7, 8), (7, 9), (7, 10), (7, 11), (7, 12), (7, 13), (7, 14), (7, 15), (7, 16), (11, 0), (11, 1), (11, 2), (11, 3), (11, 4), (11, 5), (11, 6), (11, 7)] (by decide +kernel) (by decide +kernel))) (goodIn_sub (fun _ h => List.mem_cons_of_mem _ (List.mem_append_right _ h)) (by decide +kernel))
set_option maxRecDepth 20000 in
theorem gX11_digest_X11_pact : GoodIn wsX11_digest (wsV RX11 238 RX11 yX11_pact wsX11_pact) := goodIn_app (goodIn_rr wsB_X11_digest_in _ [(4, 15), (4, 16), (4, 17), (1, 10)] (by decide +kernel) (by decide +kernel)) ggX11_digest_X11_pact
set_option maxRecDepth 20000 in
theorem ggX11_digest_X7_drawLots : GoodIn wsX11_digest wsX7_drawLots := goodIn_rr wsB_X11_digest_in _ [(5, 11), (5, 12), (2, 11), (5, 13), (5, 14), (5, 15), (7, 0), (7, 1), (7, 2), (7, 3), (7, 4), (7, 5), (7, 6), (7, 7), (7, 8), (7, 9), (7, 10), (7, 11), (7, 12), (7, 13), (7, 14), (7, 15), (7, 16)] (by decide +kernel) (by decide +kernel)
set_option maxRecDepth 20000 in
theorem gX11_digest_X7_drawLots : GoodIn wsX11_digest (wsV RX11 197 RX7 yX7_drawLots wsX7_drawLots) := goodIn_app (goodIn_rr wsB_X11_digest_in _ [(5, 8), (5, 9), (5, 10), (1, 21)] (by decide +kernel) (by decide +kernel)) ggX11_digest_X7_drawLots
set_option maxRecDepth 20000 in
theorem ggX11_digest_X11_fisher : GoodIn wsX11_digest wsX11_fisher := goodIn_ca (goodIn_2 24 (goodIn_rr wsB_X11_digest_in _ [(4, 4), (1, 12), (1, 13), (1, 2), (3, 19), (4, 5), (4, 6), (4, 7), (4, 8), (4, 9), (4, 10), (4, 11), (4, 12), (4, 13), (4, 14), (3, 21), (3, 22), (3, 23), (1, 10), (4, 0), (1, 4), (6, 0), (6, 1), (6, 2)] (by decide +kernel) (by decide +kernel)) (goodIn_2 24 (goodIn_rr wsB_X11_digest_in _ [(6, 3), (7, 0), (7, 1), (7, 2), (7, 3), (7, 4), (7, 5), (7, 6), (7, 7), (7, 8), (7, 9), (7, 10), (7, 11), (7, 12), (7, 13), (7, 14), (7, 15), (7, 16), (10, 0), (10, 1), (10, 2), (10, 3), (10, 4), (10, 5)] (by decide +kernel) (by decide +kernel)) (goodIn_rr wsB_X11_digest_in _ [(10, 6), (10, 7), (10, 8), (10, 9), (10, 10)] (by decide +kernel) (by decide +kernel)))) (goodIn_sub (fun _ h => List.mem_cons_of_mem _ (List.mem_append_right _ h)) (by decide +kernel))
set_option maxRecDepth 20000 in
theorem gX11_digest_X11_fisher : GoodIn wsX11_digest (wsV RX11 235 RX11 yX11_fisher wsX11_fisher) := goodIn_app (goodIn_rr wsB_X11_digest_in _ [(4, 1), (4, 2), (4, 3), (1, 10)] (by decide +kernel) (by decide +kernel)) ggX11_digest_X11_fisher
set_option maxRecDepth 20000 in
theorem ggX11_digest_X11_took : GoodIn wsX11_digest wsX11_took := goodIn_ca (goodIn_2 24 (goodIn_rr wsB_X11_digest_in _ [(3, 18), (1, 2), (3, 19), (3, 20), (3, 10), (3, 11), (3, 12), (1, 10), (3, 13), (1, 12), (1, 13), (1, 3), (3, 21), (3, 22), (3, 23), (4, 0), (1, 4), (6, 0), (6, 1), (6, 2), (6, 3), (7, 0), (7, 1), (7, 2)] (by decide +kernel) (by decide +kernel)) (goodIn_2 24 (goodIn_rr wsB_X11_digest_in _ [(7, 3), (7, 4), (7, 5), (7, 6), (7, 7), (7, 8), (7, 9), (7, 10), (7, 11), (7, 12), (7, 13), (7, 14), (7, 15), (7, 16), (10, 0), (10, 1), (10, 2), (10, 3), (10, 4), (10, 5), (10, 6), (10, 7), (10, 8), (10, 9)] (by decide +kernel) (by decide +kernel)) (goodIn_rr wsB_X11_digest_in _ [(10, 10)] (by decide +kernel) (by decide +kernel)))) (goodIn_sub (fun _ h => List.mem_cons_of_mem _ (List.mem_append_right _ h)) (by decide +kernel))
set_option maxRecDepth 20000 in
theorem gX11_digest_X11_took : GoodIn wsX11_digest (wsV RX11 233 RX11 yX11_took wsX11_took) := goodIn_app (goodIn_rr wsB_X11_digest_in _ [(3, 15), (3, 16), (3, 17), (1, 10)] (by decide +kernel) (by decide +kernel)) ggX11_digest_X11_took
set_option maxRecDepth 20000 in
theorem ggX11_digest_X11_ground : GoodIn wsX11_digest wsX11_ground := goodIn_ca (goodIn_2 24 (goodIn_rr wsB_X11_digest_in _ [(3, 4), (1, 12), (1, 13), (1, 2), (3, 5), (3, 6), (3, 7), (3, 8), (3, 9), (3, 10), (3, 11), (3, 12), (1, 10), (3, 13), (1, 3), (3, 14), (2, 2), (2, 3), (2, 4), (2, 5), (2, 6), (6, 0), (6, 1), (6, 2)] (by decide +kernel) (by decide +kernel)) (goodIn_rr wsB_X11_digest_in _ [(6, 3), (7, 0), (7, 1), (7, 2), (7, 3), (7, 4), (7, 5), (7, 6), (7, 7), (7, 8), (7, 9), (7, 10), (7, 11), (7, 12), (7, 13), (7, 14), (7, 15), (7, 16), (9, 0), (9, 1), (9, 2), (9, 3)] (by decide +kernel) (by decide +kernel))) (goodIn_sub (fun _ h => List.mem_cons_of_mem _ (List.mem_append_right _ h)) (by decide +kernel))
set_option maxRecDepth 20000 in
theorem gX11_digest_X11_ground : GoodIn wsX11_digest (wsV RX11 230 RX11 yX11_ground wsX11_ground) := goodIn_app (goodIn_rr wsB_X11_digest_in _ [(3, 1), (3, 2), (3, 3), (1, 10)] (by decide +kernel) (by decide +kernel)) ggX11_digest_X11_ground
set_option maxRecDepth 20000 in
theorem ggX11_digest_X11_count : GoodIn wsX11_digest wsX11_count := goodIn_ca (goodIn_2 24 (goodIn_rr wsB_X11_digest_in _ [(1, 11), (1, 12), (1, 13), (1, 2), (1, 14), (1, 3), (1, 4), (1, 15), (1, 5), (1, 16), (1, 17), (1, 18), (1, 19), (1, 20), (1, 21), (1, 22), (1, 23), (2, 0), (2, 1), (2, 2), (2, 3), (2, 4), (2, 5), (2, 6)] (by decide +kernel) (by decide +kernel)) (goodIn_2 24 (goodIn_rr wsB_X11_digest_in _ [(2, 7), (2, 8), (2, 9), (2, 10), (2, 11), (2, 12), (2, 13), (2, 14), (2, 15), (2, 16), (2, 17), (2, 18), (2, 19), (2, 20), (2, 21), (2, 22), (2, 23), (3, 0), (6, 0), (6, 1), (6, 2), (6, 3), (7, 0), (7, 1)] (by decide +kernel) (by decide +kernel)) (goodIn_2 24 (goodIn_rr wsB_X11_digest_in _ [(7, 2), (7, 3), (7, 4), (7, 5), (7, 6), (7, 7), (7, 8), (7, 9), (7, 10), (7, 11), (7, 12), (7, 13), (7, 14), (7, 15), (7, 16), (8, 0), (8, 1), (8, 2), (8, 3), (8, 4), (8, 5), (9, 0), (9, 1), (9, 2)] (by decide +kernel) (by decide +kernel)) (goodIn_rr wsB_X11_digest_in _ [(9, 3), (10, 0), (10, 1), (10, 2), (10, 3), (10, 4), (10, 5), (10, 6), (10, 7), (10, 8), (10, 9), (10, 10)] (by decide +kernel) (by decide +kernel))))) (goodIn_sub (fun _ h => List.mem_cons_of_mem _ (List.mem_append_right _ h)) (by decide +kernel))
set_option maxRecDepth 20000 in
theorem gX11_digest_X11_count : GoodIn wsX11_digest (wsV RX11 227 RX11 yX11_count wsX11_count) := goodIn_app (goodIn_rr wsB_X11_digest_in _ [(1, 7), (1, 8), (1, 9), (1, 10)] (by decide +kernel) (by decide +kernel)) ggX11_digest_X11_count
theorem k_X11_digest_f19 : Cond.fieldLink RX11 19 "TideLots" "shore" "LTideLots$Shore;" ∈ wsX11_digest := by decide +kernel
theorem i_X11_digest_X11 : ∀ w ∈ u_ws RX11 TX11 4, w ∈ wsX11_digest := by decide +kernel
theorem k_X11_digest_f71 : Cond.fieldLink RX11 71 "TideLots$Shore" "fisherCount" "I" ∈ wsX11_digest := by decide +kernel
theorem i_X11_digest_X7 : ∀ w ∈ u_ws RX7 TX7 17, w ∈ wsX11_digest := by decide +kernel
theorem k_X11_digest_c225 : Jvm.Cond.constantLong RX11 225 (31) ∈ wsX11_digest := by decide +kernel
theorem k_X11_digest_f200 : Cond.fieldLink RX11 200 "TideLots$Shore" "lots" "[I" ∈ wsX11_digest := by decide +kernel
theorem k_X11_digest_f77 : Cond.fieldLink RX11 77 "TideLots$Shore" "pactCount" "I" ∈ wsX11_digest := by decide +kernel
theorem k_X11_digest_f68 : Cond.fieldLink RX11 68 "TideLots$Shore" "groundCount" "I" ∈ wsX11_digest := by decide +kernel
theorem k_X11_digest_c223 : Jvm.Cond.constantLong RX11 223 (739) ∈ wsX11_digest := by decide +kernel
abbrev rX11_digest : Room := { frames := 3, cells := 0, slots := 0, locals := 65 }
noncomputable def bb_X11_digest_227 (M : gMem) (x0 : Nat) (x1 : Int64) (x3 : Int32) : Option ((gMem × Int64 × Int32) ⊕ (Int64 × gMem)) :=
  ck (mT M x0 = 10) <| dr ((mR M x0 1)) fun a2 => ck (mT M a2 = 7) <| (if (mI M a2 3) ≤ x3 then oI (some (x1, M)) else dr ((mR M a2 11)) fun a5 => ck (mT M a5 = 20) <| ck (inb x3 (mL M a5)) <| some (.inl (M, ((x1 * (31 : Int64)) + (Int32.toInt64 (mI M a5 x3.toNatClampNeg))), (x3 + (1 : Int32)))))
noncomputable def lp_X11_digest_227 (M : gMem) (x0 : Nat) (x1 : Int64) (x3 : Int32) : Option (Int64 × gMem) :=
  lp (fun (q : gMem × Int64 × Int32) => bb_X11_digest_227 q.1 x0 q.2.1 q.2.2) (M, x1, x3)
noncomputable def bb_X11_digest_183 (M : gMem) (x0 : Nat) (x1 : Int64) (x3 : Int32) (x4 : Int32) : Option ((gMem × Int64 × Int32) ⊕ ((gMem × Int64 × Int32) ⊕ (Int64 × gMem))) :=
  (if (6 : Int32) < x4 then oI (some (.inl (M, x1, (x3 + (1 : Int32))))) else ck (mT M x0 = 10) <| bd (f_X11_pact_n M x0 x3 x4) fun r9 M9 => some (.inl (M9, ((x1 * (31 : Int64)) + (Int32.toInt64 r9)), (x4 + (1 : Int32)))))
noncomputable def lp_X11_digest_183 (M : gMem) (x0 : Nat) (x1 : Int64) (x3 : Int32) (x4 : Int32) : Option ((gMem × Int64 × Int32) ⊕ (Int64 × gMem)) :=
  lp (fun (q : gMem × Int64 × Int32) => bb_X11_digest_183 q.1 x0 q.2.1 x3 q.2.2) (M, x1, x4)
noncomputable def bb_X11_digest_169 (M : gMem) (x0 : Nat) (x1 : Int64) (x3 : Int32) : Option ((gMem × Int64 × Int32) ⊕ (Int64 × gMem)) :=
  ck (mT M x0 = 10) <| dr ((mR M x0 1)) fun a12 => ck (mT M a12 = 7) <| (if (mI M a12 5) ≤ x3 then bd (f_X7_drawLots M a12) fun r14 M14 => oI (lp_X11_digest_227 M14 x0 x1 ((0 : Int32))) else lp_X11_digest_183 M x0 x1 x3 ((0 : Int32)))
noncomputable def lp_X11_digest_169 (M : gMem) (x0 : Nat) (x1 : Int64) (x3 : Int32) : Option (Int64 × gMem) :=
  lp (fun (q : gMem × Int64 × Int32) => bb_X11_digest_169 q.1 x0 q.2.1 q.2.2) (M, x1, x3)
noncomputable def bb_X11_digest_133 (M : gMem) (x0 : Nat) (x1 : Int64) (x3 : Int32) (x4 : Int32) : Option ((gMem × Int64 × Int32) ⊕ ((gMem × Int64 × Int32) ⊕ (Int64 × gMem))) :=
  (if (9 : Int32) < x4 then oI (some (.inl (M, x1, (x3 + (1 : Int32))))) else ck (mT M x0 = 10) <| bd (f_X11_fisher_n M x0 x3 x4) fun r17 M17 => some (.inl (M17, ((x1 * (31 : Int64)) + (Int32.toInt64 r17)), (x4 + (1 : Int32)))))
noncomputable def lp_X11_digest_133 (M : gMem) (x0 : Nat) (x1 : Int64) (x3 : Int32) (x4 : Int32) : Option ((gMem × Int64 × Int32) ⊕ (Int64 × gMem)) :=
  lp (fun (q : gMem × Int64 × Int32) => bb_X11_digest_133 q.1 x0 q.2.1 x3 q.2.2) (M, x1, x4)
noncomputable def bb_X11_digest_119 (M : gMem) (x0 : Nat) (x1 : Int64) (x3 : Int32) : Option ((gMem × Int64 × Int32) ⊕ (Int64 × gMem)) :=
  ck (mT M x0 = 10) <| dr ((mR M x0 1)) fun a20 => ck (mT M a20 = 7) <| (if (mI M a20 3) ≤ x3 then oI (lp_X11_digest_169 M x0 x1 ((0 : Int32))) else lp_X11_digest_133 M x0 x1 x3 ((0 : Int32)))
noncomputable def lp_X11_digest_119 (M : gMem) (x0 : Nat) (x1 : Int64) (x3 : Int32) : Option (Int64 × gMem) :=
  lp (fun (q : gMem × Int64 × Int32) => bb_X11_digest_119 q.1 x0 q.2.1 q.2.2) (M, x1, x3)
noncomputable def bb_X11_digest_78 (M : gMem) (x0 : Nat) (x1 : Int64) (x3 : Int32) (x4 : Int32) : Option ((gMem × Int64 × Int32) ⊕ ((gMem × Int64 × Int32) ⊕ (Int64 × gMem))) :=
  ck (mT M x0 = 10) <| dr ((mR M x0 1)) fun a24 => ck (mT M a24 = 7) <| (if (mI M a24 3) ≤ x4 then oI (some (.inl (M, x1, (x3 + (1 : Int32))))) else bd (f_X11_took_n M x0 x3 x4) fun r27 M27 => some (.inl (M27, ((x1 * (31 : Int64)) + (Int32.toInt64 r27)), (x4 + (1 : Int32)))))
noncomputable def lp_X11_digest_78 (M : gMem) (x0 : Nat) (x1 : Int64) (x3 : Int32) (x4 : Int32) : Option ((gMem × Int64 × Int32) ⊕ (Int64 × gMem)) :=
  lp (fun (q : gMem × Int64 × Int32) => bb_X11_digest_78 q.1 x0 q.2.1 x3 q.2.2) (M, x1, x4)
noncomputable def bb_X11_digest_47 (M : gMem) (x0 : Nat) (x1 : Int64) (x3 : Int32) (x4 : Int32) : Option ((gMem × Int64 × Int32) ⊕ ((gMem × Int64 × Int32) ⊕ (Int64 × gMem))) :=
  (if (8 : Int32) < x4 then oI (lp_X11_digest_78 M x0 x1 x3 ((0 : Int32))) else ck (mT M x0 = 10) <| bd (f_X11_ground_n M x0 x3 x4) fun r29 M29 => some (.inl (M29, ((x1 * (31 : Int64)) + (Int32.toInt64 r29)), (x4 + (1 : Int32)))))
noncomputable def lp_X11_digest_47 (M : gMem) (x0 : Nat) (x1 : Int64) (x3 : Int32) (x4 : Int32) : Option ((gMem × Int64 × Int32) ⊕ (Int64 × gMem)) :=
  lp (fun (q : gMem × Int64 × Int32) => bb_X11_digest_47 q.1 x0 q.2.1 x3 q.2.2) (M, x1, x4)
noncomputable def bb_X11_digest_33 (M : gMem) (x0 : Nat) (x1 : Int64) (x3 : Int32) : Option ((gMem × Int64 × Int32) ⊕ (Int64 × gMem)) :=
  ck (mT M x0 = 10) <| dr ((mR M x0 1)) fun a32 => ck (mT M a32 = 7) <| (if (mI M a32 2) ≤ x3 then oI (lp_X11_digest_119 M x0 x1 ((0 : Int32))) else lp_X11_digest_47 M x0 x1 x3 ((0 : Int32)))
noncomputable def lp_X11_digest_33 (M : gMem) (x0 : Nat) (x1 : Int64) (x3 : Int32) : Option (Int64 × gMem) :=
  lp (fun (q : gMem × Int64 × Int32) => bb_X11_digest_33 q.1 x0 q.2.1 q.2.2) (M, x1, x3)
noncomputable def bb_X11_digest_6 (M : gMem) (x0 : Nat) (x1 : Int64) (x3 : Int32) : Option ((gMem × Int64 × Int32) ⊕ (Int64 × gMem)) :=
  (if (9 : Int32) < x3 then oI (lp_X11_digest_33 M x0 x1 ((0 : Int32))) else ck (mT M x0 = 10) <| bd (f_X11_count_n M x0 x3) fun r36 M36 => some (.inl (M36, ((x1 * (31 : Int64)) + (Int32.toInt64 r36)), (x3 + (1 : Int32)))))
noncomputable def lp_X11_digest_6 (M : gMem) (x0 : Nat) (x1 : Int64) (x3 : Int32) : Option (Int64 × gMem) :=
  lp (fun (q : gMem × Int64 × Int32) => bb_X11_digest_6 q.1 x0 q.2.1 q.2.2) (M, x1, x3)
noncomputable def b_X11_digest_0 (M : gMem) (x0 : Nat) : Option (Int64 × gMem) :=
  lp_X11_digest_6 M x0 ((739 : Int64)) ((0 : Int32))
noncomputable def f_X11_digest (M : gMem) (x0 : Nat) : Option (Int64 × gMem) :=
  b_X11_digest_0 M x0
set_option maxHeartbeats 4000000 in
set_option maxRecDepth 100000 in
theorem tb_X11_digest_227 (X : gX p s m args meth c D cy B (gSt Z B H0) RX11 cX11_digest wsX11_digest 5) (hr : meth.sig.returnType = (some .long)) {Q : State → Prop} : ∀ (M : gMem) (x0 : Nat) (x1 : Int64) (x3 : Int32) (z : (gMem × Int64 × Int32) ⊕ (Int64 × gMem)), bb_X11_digest_227 M x0 x1 x3 = some z → (Sum.elim (fun (q : gMem × Int64 × Int32) => gGo p l e rX11_digest s m args below meth c D cy B H0 5 0 0 Q 227 [(0, vR (some x0)), (1, vJ q.2.1), (3, vI q.2.2)] [] q.1) (fun (r : Int64 × gMem) => Q = gMQ below D cy B H0 args s 0 0 (some (vJ r.1)) r.2)) z → gGo p l e rX11_digest s m args below meth c D cy B H0 5 0 0 Q 227 [(0, vR (some x0)), (1, vJ x1), (3, vI x3)] [] M := by
  intro M x0 x1 x3 z hf hK
  unfold bb_X11_digest_227 at hf
  refine g_iload_n X dX11_digest_227 rfl rfl ?_
  refine g_aload_n X dX11_digest_228 rfl rfl ?_
  obtain ⟨hT1, hf⟩ := ck_e hf
  refine g_get (ci := 9) (v := vR (mR M x0 1)) 1 X cdX11 i_X11_digest_X11 (by decide) k_X11_digest_f19 rfl dX11_digest_229 rfl hT1 rfl ?_
  obtain ⟨a2, ha2, hf⟩ := dr_e hf
  obtain ⟨hT3, hf⟩ := ck_e hf
  refine g_get (ci := 6) (v := vI (mI M a2 3)) 3 X cdX7 i_X11_digest_X7 (by decide) k_X11_digest_f71 rfl dX11_digest_232 ha2 hT3 rfl ?_
  refine g_icmp_ge (tgt := 261) X dX11_digest_235 (by decide) (fun hc => ?_) (fun hc => ?_)
  · have hf := ife_t hc hf
    refine g_lload_n X dX11_digest_261 rfl rfl ?_
    obtain ⟨w4, hw4, hz4⟩ := oI_e hf
    subst hz4
    have hf := hw4
    cases hf
    refine g_eqQ hK ?_
    exact g_lret X hr dX11_digest_262
  · have hf := ife_f hc hf
    refine g_lload_n X dX11_digest_238 rfl rfl ?_
    refine g_ldc2 (v := (31 : Int64)) X k_X11_digest_c225 dX11_digest_239 ?_
    refine g_lmul X dX11_digest_242 ?_
    refine g_aload_n X dX11_digest_243 rfl rfl ?_
    refine g_get (ci := 9) (v := vR (mR M x0 1)) 1 X cdX11 i_X11_digest_X11 (by decide) k_X11_digest_f19 rfl dX11_digest_244 rfl hT1 rfl ?_
    refine g_get (ci := 6) (v := vR (mR M a2 11)) 11 X cdX7 i_X11_digest_X7 (by decide) k_X11_digest_f200 rfl dX11_digest_247 ha2 hT3 rfl ?_
    refine g_iload_n X dX11_digest_250 rfl rfl ?_
    obtain ⟨a5, ha5, hf⟩ := dr_e hf
    obtain ⟨hT6, hf⟩ := ck_e hf
    obtain ⟨hg7, hf⟩ := ck_e hf
    refine g_iald X dX11_digest_251 ha5 hT6 hg7 ?_
    refine g_i2l X dX11_digest_252 ?_
    refine g_ladd X dX11_digest_253 ?_
    refine g_lstore_n (lv' := [(1, vJ ((x1 * (31 : Int64)) + (Int32.toInt64 (mI M a5 x3.toNatClampNeg)))), (0, vR (some x0)), (3, vI x3)]) X dX11_digest_254 rfl (by decide) rfl ?_
    refine g_iinc (v := (1 : Int32)) (lv' := [(3, vI (x3 + (1 : Int32))), (1, vJ ((x1 * (31 : Int64)) + (Int32.toInt64 (mI M a5 x3.toNatClampNeg)))), (0, vR (some x0))]) X dX11_digest_255 rfl (by decide) (by decide) rfl ?_
    refine g_goto (tgt := 227) X dX11_digest_258 (by decide) ?_
    cases hf
    refine g_sub (lvsub_of _ _ [2, 1, 0] rfl) ?_
    exact hK
set_option maxHeartbeats 4000000 in
set_option maxRecDepth 100000 in
theorem tl_X11_digest_227 (X : gX p s m args meth c D cy B (gSt Z B H0) RX11 cX11_digest wsX11_digest 5) (hr : meth.sig.returnType = (some .long)) {Q : State → Prop} : ∀ (M : gMem) (x0 : Nat) (x1 : Int64) (x3 : Int32) (z : Int64 × gMem), lp_X11_digest_227 M x0 x1 x3 = some z → (fun (r : Int64 × gMem) => Q = gMQ below D cy B H0 args s 0 0 (some (vJ r.1)) r.2) z → gGo p l e rX11_digest s m args below meth c D cy B H0 5 0 0 Q 227 [(0, vR (some x0)), (1, vJ x1), (3, vI x3)] [] M := by
  intro M x0 x1 x3 z hf hK
  refine lp_ind (P := (fun (q : gMem × Int64 × Int32) (z : Int64 × gMem) => (fun (r : Int64 × gMem) => Q = gMQ below D cy B H0 args s 0 0 (some (vJ r.1)) r.2) z → gGo p l e rX11_digest s m args below meth c D cy B H0 5 0 0 Q 227 [(0, vR (some x0)), (1, vJ q.2.1), (3, vI q.2.2)] [] q.1)) (fun q z hq => ?_) _ _ hf hK
  intro hK
  obtain ⟨w, hw, hm⟩ := hq
  refine tb_X11_digest_227 X hr _ _ _ _ w hw ?_
  cases w with
  | inl a => exact hm hK
  | inr b => cases hm; exact hK
set_option maxHeartbeats 4000000 in
set_option maxRecDepth 100000 in
theorem tb_X11_digest_183 (X : gX p s m args meth c D cy B (gSt Z B H0) RX11 cX11_digest wsX11_digest 5) (hr : meth.sig.returnType = (some .long)) {Q : State → Prop} : ∀ (M : gMem) (x0 : Nat) (x1 : Int64) (x3 : Int32) (x4 : Int32) (z : (gMem × Int64 × Int32) ⊕ ((gMem × Int64 × Int32) ⊕ (Int64 × gMem))), bb_X11_digest_183 M x0 x1 x3 x4 = some z → (Sum.elim (fun (q : gMem × Int64 × Int32) => gGo p l e rX11_digest s m args below meth c D cy B H0 5 0 0 Q 183 [(0, vR (some x0)), (1, vJ q.2.1), (3, vI x3), (4, vI q.2.2)] [] q.1) (Sum.elim (fun (q : gMem × Int64 × Int32) => gGo p l e rX11_digest s m args below meth c D cy B H0 5 0 0 Q 169 [(0, vR (some x0)), (1, vJ q.2.1), (3, vI q.2.2)] [] q.1) (fun (r : Int64 × gMem) => Q = gMQ below D cy B H0 args s 0 0 (some (vJ r.1)) r.2))) z → gGo p l e rX11_digest s m args below meth c D cy B H0 5 0 0 Q 183 [(0, vR (some x0)), (1, vJ x1), (3, vI x3), (4, vI x4)] [] M := by
  intro M x0 x1 x3 x4 z hf hK
  unfold bb_X11_digest_183 at hf
  refine g_iload X dX11_digest_183 rfl ?_
  refine g_bipush (v := (6 : Int32)) X dX11_digest_185 (by decide) ?_
  refine g_icmp_gt (tgt := 211) X dX11_digest_187 (by decide) (fun hc => ?_) (fun hc => ?_)
  · have hf := ife_t hc hf
    refine g_iinc (v := (1 : Int32)) (lv' := [(3, vI (x3 + (1 : Int32))), (0, vR (some x0)), (1, vJ x1), (4, vI x4)]) X dX11_digest_211 rfl (by decide) (by decide) rfl ?_
    refine g_goto (tgt := 169) X dX11_digest_214 (by decide) ?_
    obtain ⟨w8, hw8, hz8⟩ := oI_e hf
    subst hz8
    have hf := hw8
    cases hf
    refine g_sub (lvsub_of _ _ [1, 2, 0] rfl) ?_
    exact hK
  · have hf := ife_f hc hf
    refine g_lload_n X dX11_digest_190 rfl rfl ?_
    refine g_ldc2 (v := (31 : Int64)) X k_X11_digest_c225 dX11_digest_191 ?_
    refine g_lmul X dX11_digest_194 ?_
    refine g_aload_n X dX11_digest_195 rfl rfl ?_
    refine g_iload_n X dX11_digest_196 rfl rfl ?_
    refine g_iload X dX11_digest_197 rfl ?_
    obtain ⟨hT10, hf⟩ := ck_e hf
    obtain ⟨r9, M9, hq9, hf⟩ := bd_e hf
    refine g_callV (ci := 9) (b := x0) (As := [vI x3, vI x4]) (st := [vJ (x1 * (31 : Int64))]) (v := some (vI r9)) (M1 := M9) X (m_X11_pact_n l hq9) (cwV 2 X.2.2.1 gX11_digest_X11_pact rfl rfl rfl (by decide +kernel) ⟨Nat.le_of_ble_eq_true rfl, Nat.le_of_ble_eq_true rfl⟩) rfl rfl rfl hT10 (by decide) rfl (Nat.le_of_ble_eq_true rfl) dX11_digest_199 ⟨by decide, by decide⟩ ?_
    refine g_i2l X dX11_digest_202 ?_
    refine g_ladd X dX11_digest_203 ?_
    refine g_lstore_n (lv' := [(1, vJ ((x1 * (31 : Int64)) + (Int32.toInt64 r9))), (0, vR (some x0)), (3, vI x3), (4, vI x4)]) X dX11_digest_204 rfl (by decide) rfl ?_
    refine g_iinc (v := (1 : Int32)) (lv' := [(4, vI (x4 + (1 : Int32))), (1, vJ ((x1 * (31 : Int64)) + (Int32.toInt64 r9))), (0, vR (some x0)), (3, vI x3)]) X dX11_digest_205 rfl (by decide) (by decide) rfl ?_
    refine g_goto (tgt := 183) X dX11_digest_208 (by decide) ?_
    cases hf
    refine g_sub (lvsub_of _ _ [2, 1, 3, 0] rfl) ?_
    exact hK
set_option maxHeartbeats 4000000 in
set_option maxRecDepth 100000 in
theorem tl_X11_digest_183 (X : gX p s m args meth c D cy B (gSt Z B H0) RX11 cX11_digest wsX11_digest 5) (hr : meth.sig.returnType = (some .long)) {Q : State → Prop} : ∀ (M : gMem) (x0 : Nat) (x1 : Int64) (x3 : Int32) (x4 : Int32) (z : (gMem × Int64 × Int32) ⊕ (Int64 × gMem)), lp_X11_digest_183 M x0 x1 x3 x4 = some z → (Sum.elim (fun (q : gMem × Int64 × Int32) => gGo p l e rX11_digest s m args below meth c D cy B H0 5 0 0 Q 169 [(0, vR (some x0)), (1, vJ q.2.1), (3, vI q.2.2)] [] q.1) (fun (r : Int64 × gMem) => Q = gMQ below D cy B H0 args s 0 0 (some (vJ r.1)) r.2)) z → gGo p l e rX11_digest s m args below meth c D cy B H0 5 0 0 Q 183 [(0, vR (some x0)), (1, vJ x1), (3, vI x3), (4, vI x4)] [] M := by
  intro M x0 x1 x3 x4 z hf hK
  refine lp_ind (P := (fun (q : gMem × Int64 × Int32) (z : (gMem × Int64 × Int32) ⊕ (Int64 × gMem)) => (Sum.elim (fun (q : gMem × Int64 × Int32) => gGo p l e rX11_digest s m args below meth c D cy B H0 5 0 0 Q 169 [(0, vR (some x0)), (1, vJ q.2.1), (3, vI q.2.2)] [] q.1) (fun (r : Int64 × gMem) => Q = gMQ below D cy B H0 args s 0 0 (some (vJ r.1)) r.2)) z → gGo p l e rX11_digest s m args below meth c D cy B H0 5 0 0 Q 183 [(0, vR (some x0)), (1, vJ q.2.1), (3, vI x3), (4, vI q.2.2)] [] q.1)) (fun q z hq => ?_) _ _ hf hK
  intro hK
  obtain ⟨w, hw, hm⟩ := hq
  refine tb_X11_digest_183 X hr _ _ _ _ _ w hw ?_
  cases w with
  | inl a => exact hm hK
  | inr b => cases hm; exact hK
set_option maxHeartbeats 4000000 in
set_option maxRecDepth 100000 in
theorem tb_X11_digest_169 (X : gX p s m args meth c D cy B (gSt Z B H0) RX11 cX11_digest wsX11_digest 5) (hr : meth.sig.returnType = (some .long)) {Q : State → Prop} : ∀ (M : gMem) (x0 : Nat) (x1 : Int64) (x3 : Int32) (z : (gMem × Int64 × Int32) ⊕ (Int64 × gMem)), bb_X11_digest_169 M x0 x1 x3 = some z → (Sum.elim (fun (q : gMem × Int64 × Int32) => gGo p l e rX11_digest s m args below meth c D cy B H0 5 0 0 Q 169 [(0, vR (some x0)), (1, vJ q.2.1), (3, vI q.2.2)] [] q.1) (fun (r : Int64 × gMem) => Q = gMQ below D cy B H0 args s 0 0 (some (vJ r.1)) r.2)) z → gGo p l e rX11_digest s m args below meth c D cy B H0 5 0 0 Q 169 [(0, vR (some x0)), (1, vJ x1), (3, vI x3)] [] M := by
  intro M x0 x1 x3 z hf hK
  unfold bb_X11_digest_169 at hf
  refine g_iload_n X dX11_digest_169 rfl rfl ?_
  refine g_aload_n X dX11_digest_170 rfl rfl ?_
  obtain ⟨hT11, hf⟩ := ck_e hf
  refine g_get (ci := 9) (v := vR (mR M x0 1)) 1 X cdX11 i_X11_digest_X11 (by decide) k_X11_digest_f19 rfl dX11_digest_171 rfl hT11 rfl ?_
  obtain ⟨a12, ha12, hf⟩ := dr_e hf
  obtain ⟨hT13, hf⟩ := ck_e hf
  refine g_get (ci := 6) (v := vI (mI M a12 5)) 5 X cdX7 i_X11_digest_X7 (by decide) k_X11_digest_f77 rfl dX11_digest_174 ha12 hT13 rfl ?_
  refine g_icmp_ge (tgt := 217) X dX11_digest_177 (by decide) (fun hc => ?_) (fun hc => ?_)
  · have hf := ife_t hc hf
    refine g_aload_n X dX11_digest_217 rfl rfl ?_
    refine g_get (ci := 9) (v := vR (mR M x0 1)) 1 X cdX11 i_X11_digest_X11 (by decide) k_X11_digest_f19 rfl dX11_digest_218 rfl hT11 rfl ?_
    obtain ⟨r14, M14, hq14, hf⟩ := bd_e hf
    refine g_callV (ci := 6) (b := a12) (As := []) (st := []) (v := some (vI r14)) (M1 := M14) X (m_X7_drawLots l hq14) (cwV 0 X.2.2.1 gX11_digest_X7_drawLots rfl rfl rfl (by decide +kernel) ⟨Nat.le_of_ble_eq_true rfl, Nat.le_of_ble_eq_true rfl⟩) rfl rfl ha12 hT13 (by decide) rfl (Nat.le_of_ble_eq_true rfl) dX11_digest_221 ⟨by decide, by decide⟩ ?_
    refine g_pop X dX11_digest_224 rfl ?_
    refine g_iconst (v := (0 : Int32)) X dX11_digest_225 (by decide) ?_
    refine g_istore_n (lv' := [(3, vI (0 : Int32)), (0, vR (some x0)), (1, vJ x1)]) X dX11_digest_226 rfl (by decide) rfl ?_
    obtain ⟨w15, hw15, hz15⟩ := oI_e hf
    subst hz15
    have hf := hw15
    refine g_sub (lvsub_of _ _ [1, 2, 0] rfl) ?_
    exact tl_X11_digest_227 X hr _ _ _ _ _ hf hK
  · have hf := ife_f hc hf
    refine g_iconst (v := (0 : Int32)) X dX11_digest_180 (by decide) ?_
    refine g_istore (lv' := [(4, vI (0 : Int32)), (0, vR (some x0)), (1, vJ x1), (3, vI x3)]) X dX11_digest_181 (by decide) rfl ?_
    refine g_sub (lvsub_of _ _ [1, 2, 3, 0] rfl) ?_
    exact tl_X11_digest_183 X hr _ _ _ _ _ _ hf hK
set_option maxHeartbeats 4000000 in
set_option maxRecDepth 100000 in
theorem tl_X11_digest_169 (X : gX p s m args meth c D cy B (gSt Z B H0) RX11 cX11_digest wsX11_digest 5) (hr : meth.sig.returnType = (some .long)) {Q : State → Prop} : ∀ (M : gMem) (x0 : Nat) (x1 : Int64) (x3 : Int32) (z : Int64 × gMem), lp_X11_digest_169 M x0 x1 x3 = some z → (fun (r : Int64 × gMem) => Q = gMQ below D cy B H0 args s 0 0 (some (vJ r.1)) r.2) z → gGo p l e rX11_digest s m args below meth c D cy B H0 5 0 0 Q 169 [(0, vR (some x0)), (1, vJ x1), (3, vI x3)] [] M := by
  intro M x0 x1 x3 z hf hK
  refine lp_ind (P := (fun (q : gMem × Int64 × Int32) (z : Int64 × gMem) => (fun (r : Int64 × gMem) => Q = gMQ below D cy B H0 args s 0 0 (some (vJ r.1)) r.2) z → gGo p l e rX11_digest s m args below meth c D cy B H0 5 0 0 Q 169 [(0, vR (some x0)), (1, vJ q.2.1), (3, vI q.2.2)] [] q.1)) (fun q z hq => ?_) _ _ hf hK
  intro hK
  obtain ⟨w, hw, hm⟩ := hq
  refine tb_X11_digest_169 X hr _ _ _ _ w hw ?_
  cases w with
  | inl a => exact hm hK
  | inr b => cases hm; exact hK
set_option maxHeartbeats 4000000 in
set_option maxRecDepth 100000 in
theorem tb_X11_digest_133 (X : gX p s m args meth c D cy B (gSt Z B H0) RX11 cX11_digest wsX11_digest 5) (hr : meth.sig.returnType = (some .long)) {Q : State → Prop} : ∀ (M : gMem) (x0 : Nat) (x1 : Int64) (x3 : Int32) (x4 : Int32) (z : (gMem × Int64 × Int32) ⊕ ((gMem × Int64 × Int32) ⊕ (Int64 × gMem))), bb_X11_digest_133 M x0 x1 x3 x4 = some z → (Sum.elim (fun (q : gMem × Int64 × Int32) => gGo p l e rX11_digest s m args below meth c D cy B H0 5 0 0 Q 133 [(0, vR (some x0)), (1, vJ q.2.1), (3, vI x3), (4, vI q.2.2)] [] q.1) (Sum.elim (fun (q : gMem × Int64 × Int32) => gGo p l e rX11_digest s m args below meth c D cy B H0 5 0 0 Q 119 [(0, vR (some x0)), (1, vJ q.2.1), (3, vI q.2.2)] [] q.1) (fun (r : Int64 × gMem) => Q = gMQ below D cy B H0 args s 0 0 (some (vJ r.1)) r.2))) z → gGo p l e rX11_digest s m args below meth c D cy B H0 5 0 0 Q 133 [(0, vR (some x0)), (1, vJ x1), (3, vI x3), (4, vI x4)] [] M := by
  intro M x0 x1 x3 x4 z hf hK
  unfold bb_X11_digest_133 at hf
  refine g_iload X dX11_digest_133 rfl ?_
  refine g_bipush (v := (9 : Int32)) X dX11_digest_135 (by decide) ?_
  refine g_icmp_gt (tgt := 161) X dX11_digest_137 (by decide) (fun hc => ?_) (fun hc => ?_)
  · have hf := ife_t hc hf
    refine g_iinc (v := (1 : Int32)) (lv' := [(3, vI (x3 + (1 : Int32))), (0, vR (some x0)), (1, vJ x1), (4, vI x4)]) X dX11_digest_161 rfl (by decide) (by decide) rfl ?_
    refine g_goto (tgt := 119) X dX11_digest_164 (by decide) ?_
    obtain ⟨w16, hw16, hz16⟩ := oI_e hf
    subst hz16
    have hf := hw16
    cases hf
    refine g_sub (lvsub_of _ _ [1, 2, 0] rfl) ?_
    exact hK
  · have hf := ife_f hc hf
    refine g_lload_n X dX11_digest_140 rfl rfl ?_
    refine g_ldc2 (v := (31 : Int64)) X k_X11_digest_c225 dX11_digest_141 ?_
    refine g_lmul X dX11_digest_144 ?_
    refine g_aload_n X dX11_digest_145 rfl rfl ?_
    refine g_iload_n X dX11_digest_146 rfl rfl ?_
    refine g_iload X dX11_digest_147 rfl ?_
    obtain ⟨hT18, hf⟩ := ck_e hf
    obtain ⟨r17, M17, hq17, hf⟩ := bd_e hf
    refine g_callV (ci := 9) (b := x0) (As := [vI x3, vI x4]) (st := [vJ (x1 * (31 : Int64))]) (v := some (vI r17)) (M1 := M17) X (m_X11_fisher_n l hq17) (cwV 2 X.2.2.1 gX11_digest_X11_fisher rfl rfl rfl (by decide +kernel) ⟨Nat.le_of_ble_eq_true rfl, Nat.le_of_ble_eq_true rfl⟩) rfl rfl rfl hT18 (by decide) rfl (Nat.le_of_ble_eq_true rfl) dX11_digest_149 ⟨by decide, by decide⟩ ?_
    refine g_i2l X dX11_digest_152 ?_
    refine g_ladd X dX11_digest_153 ?_
    refine g_lstore_n (lv' := [(1, vJ ((x1 * (31 : Int64)) + (Int32.toInt64 r17))), (0, vR (some x0)), (3, vI x3), (4, vI x4)]) X dX11_digest_154 rfl (by decide) rfl ?_
    refine g_iinc (v := (1 : Int32)) (lv' := [(4, vI (x4 + (1 : Int32))), (1, vJ ((x1 * (31 : Int64)) + (Int32.toInt64 r17))), (0, vR (some x0)), (3, vI x3)]) X dX11_digest_155 rfl (by decide) (by decide) rfl ?_
    refine g_goto (tgt := 133) X dX11_digest_158 (by decide) ?_
    cases hf
    refine g_sub (lvsub_of _ _ [2, 1, 3, 0] rfl) ?_
    exact hK
set_option maxHeartbeats 4000000 in
set_option maxRecDepth 100000 in
theorem tl_X11_digest_133 (X : gX p s m args meth c D cy B (gSt Z B H0) RX11 cX11_digest wsX11_digest 5) (hr : meth.sig.returnType = (some .long)) {Q : State → Prop} : ∀ (M : gMem) (x0 : Nat) (x1 : Int64) (x3 : Int32) (x4 : Int32) (z : (gMem × Int64 × Int32) ⊕ (Int64 × gMem)), lp_X11_digest_133 M x0 x1 x3 x4 = some z → (Sum.elim (fun (q : gMem × Int64 × Int32) => gGo p l e rX11_digest s m args below meth c D cy B H0 5 0 0 Q 119 [(0, vR (some x0)), (1, vJ q.2.1), (3, vI q.2.2)] [] q.1) (fun (r : Int64 × gMem) => Q = gMQ below D cy B H0 args s 0 0 (some (vJ r.1)) r.2)) z → gGo p l e rX11_digest s m args below meth c D cy B H0 5 0 0 Q 133 [(0, vR (some x0)), (1, vJ x1), (3, vI x3), (4, vI x4)] [] M := by
  intro M x0 x1 x3 x4 z hf hK
  refine lp_ind (P := (fun (q : gMem × Int64 × Int32) (z : (gMem × Int64 × Int32) ⊕ (Int64 × gMem)) => (Sum.elim (fun (q : gMem × Int64 × Int32) => gGo p l e rX11_digest s m args below meth c D cy B H0 5 0 0 Q 119 [(0, vR (some x0)), (1, vJ q.2.1), (3, vI q.2.2)] [] q.1) (fun (r : Int64 × gMem) => Q = gMQ below D cy B H0 args s 0 0 (some (vJ r.1)) r.2)) z → gGo p l e rX11_digest s m args below meth c D cy B H0 5 0 0 Q 133 [(0, vR (some x0)), (1, vJ q.2.1), (3, vI x3), (4, vI q.2.2)] [] q.1)) (fun q z hq => ?_) _ _ hf hK
  intro hK
  obtain ⟨w, hw, hm⟩ := hq
  refine tb_X11_digest_133 X hr _ _ _ _ _ w hw ?_
  cases w with
  | inl a => exact hm hK
  | inr b => cases hm; exact hK
set_option maxHeartbeats 4000000 in
set_option maxRecDepth 100000 in
theorem tb_X11_digest_119 (X : gX p s m args meth c D cy B (gSt Z B H0) RX11 cX11_digest wsX11_digest 5) (hr : meth.sig.returnType = (some .long)) {Q : State → Prop} : ∀ (M : gMem) (x0 : Nat) (x1 : Int64) (x3 : Int32) (z : (gMem × Int64 × Int32) ⊕ (Int64 × gMem)), bb_X11_digest_119 M x0 x1 x3 = some z → (Sum.elim (fun (q : gMem × Int64 × Int32) => gGo p l e rX11_digest s m args below meth c D cy B H0 5 0 0 Q 119 [(0, vR (some x0)), (1, vJ q.2.1), (3, vI q.2.2)] [] q.1) (fun (r : Int64 × gMem) => Q = gMQ below D cy B H0 args s 0 0 (some (vJ r.1)) r.2)) z → gGo p l e rX11_digest s m args below meth c D cy B H0 5 0 0 Q 119 [(0, vR (some x0)), (1, vJ x1), (3, vI x3)] [] M := by
  intro M x0 x1 x3 z hf hK
  unfold bb_X11_digest_119 at hf
  refine g_iload_n X dX11_digest_119 rfl rfl ?_
  refine g_aload_n X dX11_digest_120 rfl rfl ?_
  obtain ⟨hT19, hf⟩ := ck_e hf
  refine g_get (ci := 9) (v := vR (mR M x0 1)) 1 X cdX11 i_X11_digest_X11 (by decide) k_X11_digest_f19 rfl dX11_digest_121 rfl hT19 rfl ?_
  obtain ⟨a20, ha20, hf⟩ := dr_e hf
  obtain ⟨hT21, hf⟩ := ck_e hf
  refine g_get (ci := 6) (v := vI (mI M a20 3)) 3 X cdX7 i_X11_digest_X7 (by decide) k_X11_digest_f71 rfl dX11_digest_124 ha20 hT21 rfl ?_
  refine g_icmp_ge (tgt := 167) X dX11_digest_127 (by decide) (fun hc => ?_) (fun hc => ?_)
  · have hf := ife_t hc hf
    refine g_iconst (v := (0 : Int32)) X dX11_digest_167 (by decide) ?_
    refine g_istore_n (lv' := [(3, vI (0 : Int32)), (0, vR (some x0)), (1, vJ x1)]) X dX11_digest_168 rfl (by decide) rfl ?_
    obtain ⟨w22, hw22, hz22⟩ := oI_e hf
    subst hz22
    have hf := hw22
    refine g_sub (lvsub_of _ _ [1, 2, 0] rfl) ?_
    exact tl_X11_digest_169 X hr _ _ _ _ _ hf hK
  · have hf := ife_f hc hf
    refine g_iconst (v := (0 : Int32)) X dX11_digest_130 (by decide) ?_
    refine g_istore (lv' := [(4, vI (0 : Int32)), (0, vR (some x0)), (1, vJ x1), (3, vI x3)]) X dX11_digest_131 (by decide) rfl ?_
    refine g_sub (lvsub_of _ _ [1, 2, 3, 0] rfl) ?_
    exact tl_X11_digest_133 X hr _ _ _ _ _ _ hf hK
set_option maxHeartbeats 4000000 in
set_option maxRecDepth 100000 in
theorem tl_X11_digest_119 (X : gX p s m args meth c D cy B (gSt Z B H0) RX11 cX11_digest wsX11_digest 5) (hr : meth.sig.returnType = (some .long)) {Q : State → Prop} : ∀ (M : gMem) (x0 : Nat) (x1 : Int64) (x3 : Int32) (z : Int64 × gMem), lp_X11_digest_119 M x0 x1 x3 = some z → (fun (r : Int64 × gMem) => Q = gMQ below D cy B H0 args s 0 0 (some (vJ r.1)) r.2) z → gGo p l e rX11_digest s m args below meth c D cy B H0 5 0 0 Q 119 [(0, vR (some x0)), (1, vJ x1), (3, vI x3)] [] M := by
  intro M x0 x1 x3 z hf hK
  refine lp_ind (P := (fun (q : gMem × Int64 × Int32) (z : Int64 × gMem) => (fun (r : Int64 × gMem) => Q = gMQ below D cy B H0 args s 0 0 (some (vJ r.1)) r.2) z → gGo p l e rX11_digest s m args below meth c D cy B H0 5 0 0 Q 119 [(0, vR (some x0)), (1, vJ q.2.1), (3, vI q.2.2)] [] q.1)) (fun q z hq => ?_) _ _ hf hK
  intro hK
  obtain ⟨w, hw, hm⟩ := hq
  refine tb_X11_digest_119 X hr _ _ _ _ w hw ?_
  cases w with
  | inl a => exact hm hK
  | inr b => cases hm; exact hK
set_option maxHeartbeats 4000000 in
set_option maxRecDepth 100000 in
theorem tb_X11_digest_78 (X : gX p s m args meth c D cy B (gSt Z B H0) RX11 cX11_digest wsX11_digest 5) (hr : meth.sig.returnType = (some .long)) {Q : State → Prop} : ∀ (M : gMem) (x0 : Nat) (x1 : Int64) (x3 : Int32) (x4 : Int32) (z : (gMem × Int64 × Int32) ⊕ ((gMem × Int64 × Int32) ⊕ (Int64 × gMem))), bb_X11_digest_78 M x0 x1 x3 x4 = some z → (Sum.elim (fun (q : gMem × Int64 × Int32) => gGo p l e rX11_digest s m args below meth c D cy B H0 5 0 0 Q 78 [(0, vR (some x0)), (1, vJ q.2.1), (3, vI x3), (4, vI q.2.2)] [] q.1) (Sum.elim (fun (q : gMem × Int64 × Int32) => gGo p l e rX11_digest s m args below meth c D cy B H0 5 0 0 Q 33 [(0, vR (some x0)), (1, vJ q.2.1), (3, vI q.2.2)] [] q.1) (fun (r : Int64 × gMem) => Q = gMQ below D cy B H0 args s 0 0 (some (vJ r.1)) r.2))) z → gGo p l e rX11_digest s m args below meth c D cy B H0 5 0 0 Q 78 [(0, vR (some x0)), (1, vJ x1), (3, vI x3), (4, vI x4)] [] M := by
  intro M x0 x1 x3 x4 z hf hK
  unfold bb_X11_digest_78 at hf
  refine g_iload X dX11_digest_78 rfl ?_
  refine g_aload_n X dX11_digest_80 rfl rfl ?_
  obtain ⟨hT23, hf⟩ := ck_e hf
  refine g_get (ci := 9) (v := vR (mR M x0 1)) 1 X cdX11 i_X11_digest_X11 (by decide) k_X11_digest_f19 rfl dX11_digest_81 rfl hT23 rfl ?_
  obtain ⟨a24, ha24, hf⟩ := dr_e hf
  obtain ⟨hT25, hf⟩ := ck_e hf
  refine g_get (ci := 6) (v := vI (mI M a24 3)) 3 X cdX7 i_X11_digest_X7 (by decide) k_X11_digest_f71 rfl dX11_digest_84 ha24 hT25 rfl ?_
  refine g_icmp_ge (tgt := 111) X dX11_digest_87 (by decide) (fun hc => ?_) (fun hc => ?_)
  · have hf := ife_t hc hf
    refine g_iinc (v := (1 : Int32)) (lv' := [(3, vI (x3 + (1 : Int32))), (0, vR (some x0)), (1, vJ x1), (4, vI x4)]) X dX11_digest_111 rfl (by decide) (by decide) rfl ?_
    refine g_goto (tgt := 33) X dX11_digest_114 (by decide) ?_
    obtain ⟨w26, hw26, hz26⟩ := oI_e hf
    subst hz26
    have hf := hw26
    cases hf
    refine g_sub (lvsub_of _ _ [1, 2, 0] rfl) ?_
    exact hK
  · have hf := ife_f hc hf
    refine g_lload_n X dX11_digest_90 rfl rfl ?_
    refine g_ldc2 (v := (31 : Int64)) X k_X11_digest_c225 dX11_digest_91 ?_
    refine g_lmul X dX11_digest_94 ?_
    refine g_aload_n X dX11_digest_95 rfl rfl ?_
    refine g_iload_n X dX11_digest_96 rfl rfl ?_
    refine g_iload X dX11_digest_97 rfl ?_
    obtain ⟨r27, M27, hq27, hf⟩ := bd_e hf
    refine g_callV (ci := 9) (b := x0) (As := [vI x3, vI x4]) (st := [vJ (x1 * (31 : Int64))]) (v := some (vI r27)) (M1 := M27) X (m_X11_took_n l hq27) (cwV 2 X.2.2.1 gX11_digest_X11_took rfl rfl rfl (by decide +kernel) ⟨Nat.le_of_ble_eq_true rfl, Nat.le_of_ble_eq_true rfl⟩) rfl rfl rfl hT23 (by decide) rfl (Nat.le_of_ble_eq_true rfl) dX11_digest_99 ⟨by decide, by decide⟩ ?_
    refine g_i2l X dX11_digest_102 ?_
    refine g_ladd X dX11_digest_103 ?_
    refine g_lstore_n (lv' := [(1, vJ ((x1 * (31 : Int64)) + (Int32.toInt64 r27))), (0, vR (some x0)), (3, vI x3), (4, vI x4)]) X dX11_digest_104 rfl (by decide) rfl ?_
    refine g_iinc (v := (1 : Int32)) (lv' := [(4, vI (x4 + (1 : Int32))), (1, vJ ((x1 * (31 : Int64)) + (Int32.toInt64 r27))), (0, vR (some x0)), (3, vI x3)]) X dX11_digest_105 rfl (by decide) (by decide) rfl ?_
    refine g_goto (tgt := 78) X dX11_digest_108 (by decide) ?_
    cases hf
    refine g_sub (lvsub_of _ _ [2, 1, 3, 0] rfl) ?_
    exact hK
set_option maxHeartbeats 4000000 in
set_option maxRecDepth 100000 in
theorem tl_X11_digest_78 (X : gX p s m args meth c D cy B (gSt Z B H0) RX11 cX11_digest wsX11_digest 5) (hr : meth.sig.returnType = (some .long)) {Q : State → Prop} : ∀ (M : gMem) (x0 : Nat) (x1 : Int64) (x3 : Int32) (x4 : Int32) (z : (gMem × Int64 × Int32) ⊕ (Int64 × gMem)), lp_X11_digest_78 M x0 x1 x3 x4 = some z → (Sum.elim (fun (q : gMem × Int64 × Int32) => gGo p l e rX11_digest s m args below meth c D cy B H0 5 0 0 Q 33 [(0, vR (some x0)), (1, vJ q.2.1), (3, vI q.2.2)] [] q.1) (fun (r : Int64 × gMem) => Q = gMQ below D cy B H0 args s 0 0 (some (vJ r.1)) r.2)) z → gGo p l e rX11_digest s m args below meth c D cy B H0 5 0 0 Q 78 [(0, vR (some x0)), (1, vJ x1), (3, vI x3), (4, vI x4)] [] M := by
  intro M x0 x1 x3 x4 z hf hK
  refine lp_ind (P := (fun (q : gMem × Int64 × Int32) (z : (gMem × Int64 × Int32) ⊕ (Int64 × gMem)) => (Sum.elim (fun (q : gMem × Int64 × Int32) => gGo p l e rX11_digest s m args below meth c D cy B H0 5 0 0 Q 33 [(0, vR (some x0)), (1, vJ q.2.1), (3, vI q.2.2)] [] q.1) (fun (r : Int64 × gMem) => Q = gMQ below D cy B H0 args s 0 0 (some (vJ r.1)) r.2)) z → gGo p l e rX11_digest s m args below meth c D cy B H0 5 0 0 Q 78 [(0, vR (some x0)), (1, vJ q.2.1), (3, vI x3), (4, vI q.2.2)] [] q.1)) (fun q z hq => ?_) _ _ hf hK
  intro hK
  obtain ⟨w, hw, hm⟩ := hq
  refine tb_X11_digest_78 X hr _ _ _ _ _ w hw ?_
  cases w with
  | inl a => exact hm hK
  | inr b => cases hm; exact hK
set_option maxHeartbeats 4000000 in
set_option maxRecDepth 100000 in
theorem tb_X11_digest_47 (X : gX p s m args meth c D cy B (gSt Z B H0) RX11 cX11_digest wsX11_digest 5) (hr : meth.sig.returnType = (some .long)) {Q : State → Prop} : ∀ (M : gMem) (x0 : Nat) (x1 : Int64) (x3 : Int32) (x4 : Int32) (z : (gMem × Int64 × Int32) ⊕ ((gMem × Int64 × Int32) ⊕ (Int64 × gMem))), bb_X11_digest_47 M x0 x1 x3 x4 = some z → (Sum.elim (fun (q : gMem × Int64 × Int32) => gGo p l e rX11_digest s m args below meth c D cy B H0 5 0 0 Q 47 [(0, vR (some x0)), (1, vJ q.2.1), (3, vI x3), (4, vI q.2.2)] [] q.1) (Sum.elim (fun (q : gMem × Int64 × Int32) => gGo p l e rX11_digest s m args below meth c D cy B H0 5 0 0 Q 33 [(0, vR (some x0)), (1, vJ q.2.1), (3, vI q.2.2)] [] q.1) (fun (r : Int64 × gMem) => Q = gMQ below D cy B H0 args s 0 0 (some (vJ r.1)) r.2))) z → gGo p l e rX11_digest s m args below meth c D cy B H0 5 0 0 Q 47 [(0, vR (some x0)), (1, vJ x1), (3, vI x3), (4, vI x4)] [] M := by
  intro M x0 x1 x3 x4 z hf hK
  unfold bb_X11_digest_47 at hf
  refine g_iload X dX11_digest_47 rfl ?_
  refine g_bipush (v := (8 : Int32)) X dX11_digest_49 (by decide) ?_
  refine g_icmp_gt (tgt := 75) X dX11_digest_51 (by decide) (fun hc => ?_) (fun hc => ?_)
  · have hf := ife_t hc hf
    refine g_iconst (v := (0 : Int32)) X dX11_digest_75 (by decide) ?_
    refine g_istore (lv' := [(4, vI (0 : Int32)), (0, vR (some x0)), (1, vJ x1), (3, vI x3)]) X dX11_digest_76 (by decide) rfl ?_
    obtain ⟨w28, hw28, hz28⟩ := oI_e hf
    subst hz28
    have hf := hw28
    refine g_sub (lvsub_of _ _ [1, 2, 3, 0] rfl) ?_
    exact tl_X11_digest_78 X hr _ _ _ _ _ _ hf hK
  · have hf := ife_f hc hf
    refine g_lload_n X dX11_digest_54 rfl rfl ?_
    refine g_ldc2 (v := (31 : Int64)) X k_X11_digest_c225 dX11_digest_55 ?_
    refine g_lmul X dX11_digest_58 ?_
    refine g_aload_n X dX11_digest_59 rfl rfl ?_
    refine g_iload_n X dX11_digest_60 rfl rfl ?_
    refine g_iload X dX11_digest_61 rfl ?_
    obtain ⟨hT30, hf⟩ := ck_e hf
    obtain ⟨r29, M29, hq29, hf⟩ := bd_e hf
    refine g_callV (ci := 9) (b := x0) (As := [vI x3, vI x4]) (st := [vJ (x1 * (31 : Int64))]) (v := some (vI r29)) (M1 := M29) X (m_X11_ground_n l hq29) (cwV 2 X.2.2.1 gX11_digest_X11_ground rfl rfl rfl (by decide +kernel) ⟨Nat.le_of_ble_eq_true rfl, Nat.le_of_ble_eq_true rfl⟩) rfl rfl rfl hT30 (by decide) rfl (Nat.le_of_ble_eq_true rfl) dX11_digest_63 ⟨by decide, by decide⟩ ?_
    refine g_i2l X dX11_digest_66 ?_
    refine g_ladd X dX11_digest_67 ?_
    refine g_lstore_n (lv' := [(1, vJ ((x1 * (31 : Int64)) + (Int32.toInt64 r29))), (0, vR (some x0)), (3, vI x3), (4, vI x4)]) X dX11_digest_68 rfl (by decide) rfl ?_
    refine g_iinc (v := (1 : Int32)) (lv' := [(4, vI (x4 + (1 : Int32))), (1, vJ ((x1 * (31 : Int64)) + (Int32.toInt64 r29))), (0, vR (some x0)), (3, vI x3)]) X dX11_digest_69 rfl (by decide) (by decide) rfl ?_
    refine g_goto (tgt := 47) X dX11_digest_72 (by decide) ?_
    cases hf
    refine g_sub (lvsub_of _ _ [2, 1, 3, 0] rfl) ?_
    exact hK
set_option maxHeartbeats 4000000 in
set_option maxRecDepth 100000 in
theorem tl_X11_digest_47 (X : gX p s m args meth c D cy B (gSt Z B H0) RX11 cX11_digest wsX11_digest 5) (hr : meth.sig.returnType = (some .long)) {Q : State → Prop} : ∀ (M : gMem) (x0 : Nat) (x1 : Int64) (x3 : Int32) (x4 : Int32) (z : (gMem × Int64 × Int32) ⊕ (Int64 × gMem)), lp_X11_digest_47 M x0 x1 x3 x4 = some z → (Sum.elim (fun (q : gMem × Int64 × Int32) => gGo p l e rX11_digest s m args below meth c D cy B H0 5 0 0 Q 33 [(0, vR (some x0)), (1, vJ q.2.1), (3, vI q.2.2)] [] q.1) (fun (r : Int64 × gMem) => Q = gMQ below D cy B H0 args s 0 0 (some (vJ r.1)) r.2)) z → gGo p l e rX11_digest s m args below meth c D cy B H0 5 0 0 Q 47 [(0, vR (some x0)), (1, vJ x1), (3, vI x3), (4, vI x4)] [] M := by
  intro M x0 x1 x3 x4 z hf hK
  refine lp_ind (P := (fun (q : gMem × Int64 × Int32) (z : (gMem × Int64 × Int32) ⊕ (Int64 × gMem)) => (Sum.elim (fun (q : gMem × Int64 × Int32) => gGo p l e rX11_digest s m args below meth c D cy B H0 5 0 0 Q 33 [(0, vR (some x0)), (1, vJ q.2.1), (3, vI q.2.2)] [] q.1) (fun (r : Int64 × gMem) => Q = gMQ below D cy B H0 args s 0 0 (some (vJ r.1)) r.2)) z → gGo p l e rX11_digest s m args below meth c D cy B H0 5 0 0 Q 47 [(0, vR (some x0)), (1, vJ q.2.1), (3, vI x3), (4, vI q.2.2)] [] q.1)) (fun q z hq => ?_) _ _ hf hK
  intro hK
  obtain ⟨w, hw, hm⟩ := hq
  refine tb_X11_digest_47 X hr _ _ _ _ _ w hw ?_
  cases w with
  | inl a => exact hm hK
  | inr b => cases hm; exact hK
set_option maxHeartbeats 4000000 in
set_option maxRecDepth 100000 in
theorem tb_X11_digest_33 (X : gX p s m args meth c D cy B (gSt Z B H0) RX11 cX11_digest wsX11_digest 5) (hr : meth.sig.returnType = (some .long)) {Q : State → Prop} : ∀ (M : gMem) (x0 : Nat) (x1 : Int64) (x3 : Int32) (z : (gMem × Int64 × Int32) ⊕ (Int64 × gMem)), bb_X11_digest_33 M x0 x1 x3 = some z → (Sum.elim (fun (q : gMem × Int64 × Int32) => gGo p l e rX11_digest s m args below meth c D cy B H0 5 0 0 Q 33 [(0, vR (some x0)), (1, vJ q.2.1), (3, vI q.2.2)] [] q.1) (fun (r : Int64 × gMem) => Q = gMQ below D cy B H0 args s 0 0 (some (vJ r.1)) r.2)) z → gGo p l e rX11_digest s m args below meth c D cy B H0 5 0 0 Q 33 [(0, vR (some x0)), (1, vJ x1), (3, vI x3)] [] M := by
  intro M x0 x1 x3 z hf hK
  unfold bb_X11_digest_33 at hf
  refine g_iload_n X dX11_digest_33 rfl rfl ?_
  refine g_aload_n X dX11_digest_34 rfl rfl ?_
  obtain ⟨hT31, hf⟩ := ck_e hf
  refine g_get (ci := 9) (v := vR (mR M x0 1)) 1 X cdX11 i_X11_digest_X11 (by decide) k_X11_digest_f19 rfl dX11_digest_35 rfl hT31 rfl ?_
  obtain ⟨a32, ha32, hf⟩ := dr_e hf
  obtain ⟨hT33, hf⟩ := ck_e hf
  refine g_get (ci := 6) (v := vI (mI M a32 2)) 2 X cdX7 i_X11_digest_X7 (by decide) k_X11_digest_f68 rfl dX11_digest_38 ha32 hT33 rfl ?_
  refine g_icmp_ge (tgt := 117) X dX11_digest_41 (by decide) (fun hc => ?_) (fun hc => ?_)
  · have hf := ife_t hc hf
    refine g_iconst (v := (0 : Int32)) X dX11_digest_117 (by decide) ?_
    refine g_istore_n (lv' := [(3, vI (0 : Int32)), (0, vR (some x0)), (1, vJ x1)]) X dX11_digest_118 rfl (by decide) rfl ?_
    obtain ⟨w34, hw34, hz34⟩ := oI_e hf
    subst hz34
    have hf := hw34
    refine g_sub (lvsub_of _ _ [1, 2, 0] rfl) ?_
    exact tl_X11_digest_119 X hr _ _ _ _ _ hf hK
  · have hf := ife_f hc hf
    refine g_iconst (v := (0 : Int32)) X dX11_digest_44 (by decide) ?_
    refine g_istore (lv' := [(4, vI (0 : Int32)), (0, vR (some x0)), (1, vJ x1), (3, vI x3)]) X dX11_digest_45 (by decide) rfl ?_
    refine g_sub (lvsub_of _ _ [1, 2, 3, 0] rfl) ?_
    exact tl_X11_digest_47 X hr _ _ _ _ _ _ hf hK
set_option maxHeartbeats 4000000 in
set_option maxRecDepth 100000 in
theorem tl_X11_digest_33 (X : gX p s m args meth c D cy B (gSt Z B H0) RX11 cX11_digest wsX11_digest 5) (hr : meth.sig.returnType = (some .long)) {Q : State → Prop} : ∀ (M : gMem) (x0 : Nat) (x1 : Int64) (x3 : Int32) (z : Int64 × gMem), lp_X11_digest_33 M x0 x1 x3 = some z → (fun (r : Int64 × gMem) => Q = gMQ below D cy B H0 args s 0 0 (some (vJ r.1)) r.2) z → gGo p l e rX11_digest s m args below meth c D cy B H0 5 0 0 Q 33 [(0, vR (some x0)), (1, vJ x1), (3, vI x3)] [] M := by
  intro M x0 x1 x3 z hf hK
  refine lp_ind (P := (fun (q : gMem × Int64 × Int32) (z : Int64 × gMem) => (fun (r : Int64 × gMem) => Q = gMQ below D cy B H0 args s 0 0 (some (vJ r.1)) r.2) z → gGo p l e rX11_digest s m args below meth c D cy B H0 5 0 0 Q 33 [(0, vR (some x0)), (1, vJ q.2.1), (3, vI q.2.2)] [] q.1)) (fun q z hq => ?_) _ _ hf hK
  intro hK
  obtain ⟨w, hw, hm⟩ := hq
  refine tb_X11_digest_33 X hr _ _ _ _ w hw ?_
  cases w with
  | inl a => exact hm hK
  | inr b => cases hm; exact hK
set_option maxHeartbeats 4000000 in
set_option maxRecDepth 100000 in
theorem tb_X11_digest_6 (X : gX p s m args meth c D cy B (gSt Z B H0) RX11 cX11_digest wsX11_digest 5) (hr : meth.sig.returnType = (some .long)) {Q : State → Prop} : ∀ (M : gMem) (x0 : Nat) (x1 : Int64) (x3 : Int32) (z : (gMem × Int64 × Int32) ⊕ (Int64 × gMem)), bb_X11_digest_6 M x0 x1 x3 = some z → (Sum.elim (fun (q : gMem × Int64 × Int32) => gGo p l e rX11_digest s m args below meth c D cy B H0 5 0 0 Q 6 [(0, vR (some x0)), (1, vJ q.2.1), (3, vI q.2.2)] [] q.1) (fun (r : Int64 × gMem) => Q = gMQ below D cy B H0 args s 0 0 (some (vJ r.1)) r.2)) z → gGo p l e rX11_digest s m args below meth c D cy B H0 5 0 0 Q 6 [(0, vR (some x0)), (1, vJ x1), (3, vI x3)] [] M := by
  intro M x0 x1 x3 z hf hK
  unfold bb_X11_digest_6 at hf
  refine g_iload_n X dX11_digest_6 rfl rfl ?_
  refine g_bipush (v := (9 : Int32)) X dX11_digest_7 (by decide) ?_
  refine g_icmp_gt (tgt := 31) X dX11_digest_9 (by decide) (fun hc => ?_) (fun hc => ?_)
  · have hf := ife_t hc hf
    refine g_iconst (v := (0 : Int32)) X dX11_digest_31 (by decide) ?_
    refine g_istore_n (lv' := [(3, vI (0 : Int32)), (0, vR (some x0)), (1, vJ x1)]) X dX11_digest_32 rfl (by decide) rfl ?_
    obtain ⟨w35, hw35, hz35⟩ := oI_e hf
    subst hz35
    have hf := hw35
    refine g_sub (lvsub_of _ _ [1, 2, 0] rfl) ?_
    exact tl_X11_digest_33 X hr _ _ _ _ _ hf hK
  · have hf := ife_f hc hf
    refine g_lload_n X dX11_digest_12 rfl rfl ?_
    refine g_ldc2 (v := (31 : Int64)) X k_X11_digest_c225 dX11_digest_13 ?_
    refine g_lmul X dX11_digest_16 ?_
    refine g_aload_n X dX11_digest_17 rfl rfl ?_
    refine g_iload_n X dX11_digest_18 rfl rfl ?_
    obtain ⟨hT37, hf⟩ := ck_e hf
    obtain ⟨r36, M36, hq36, hf⟩ := bd_e hf
    refine g_callV (ci := 9) (b := x0) (As := [vI x3]) (st := [vJ (x1 * (31 : Int64))]) (v := some (vI r36)) (M1 := M36) X (m_X11_count_n l hq36) (cwV 1 X.2.2.1 gX11_digest_X11_count rfl rfl rfl (by decide +kernel) ⟨Nat.le_of_ble_eq_true rfl, Nat.le_of_ble_eq_true rfl⟩) rfl rfl rfl hT37 (by decide) rfl (Nat.le_of_ble_eq_true rfl) dX11_digest_19 ⟨by decide, by decide⟩ ?_
    refine g_i2l X dX11_digest_22 ?_
    refine g_ladd X dX11_digest_23 ?_
    refine g_lstore_n (lv' := [(1, vJ ((x1 * (31 : Int64)) + (Int32.toInt64 r36))), (0, vR (some x0)), (3, vI x3)]) X dX11_digest_24 rfl (by decide) rfl ?_
    refine g_iinc (v := (1 : Int32)) (lv' := [(3, vI (x3 + (1 : Int32))), (1, vJ ((x1 * (31 : Int64)) + (Int32.toInt64 r36))), (0, vR (some x0))]) X dX11_digest_25 rfl (by decide) (by decide) rfl ?_
    refine g_goto (tgt := 6) X dX11_digest_28 (by decide) ?_
    cases hf
    refine g_sub (lvsub_of _ _ [2, 1, 0] rfl) ?_
    exact hK
set_option maxHeartbeats 4000000 in
set_option maxRecDepth 100000 in
theorem tl_X11_digest_6 (X : gX p s m args meth c D cy B (gSt Z B H0) RX11 cX11_digest wsX11_digest 5) (hr : meth.sig.returnType = (some .long)) {Q : State → Prop} : ∀ (M : gMem) (x0 : Nat) (x1 : Int64) (x3 : Int32) (z : Int64 × gMem), lp_X11_digest_6 M x0 x1 x3 = some z → (fun (r : Int64 × gMem) => Q = gMQ below D cy B H0 args s 0 0 (some (vJ r.1)) r.2) z → gGo p l e rX11_digest s m args below meth c D cy B H0 5 0 0 Q 6 [(0, vR (some x0)), (1, vJ x1), (3, vI x3)] [] M := by
  intro M x0 x1 x3 z hf hK
  refine lp_ind (P := (fun (q : gMem × Int64 × Int32) (z : Int64 × gMem) => (fun (r : Int64 × gMem) => Q = gMQ below D cy B H0 args s 0 0 (some (vJ r.1)) r.2) z → gGo p l e rX11_digest s m args below meth c D cy B H0 5 0 0 Q 6 [(0, vR (some x0)), (1, vJ q.2.1), (3, vI q.2.2)] [] q.1)) (fun q z hq => ?_) _ _ hf hK
  intro hK
  obtain ⟨w, hw, hm⟩ := hq
  refine tb_X11_digest_6 X hr _ _ _ _ w hw ?_
  cases w with
  | inl a => exact hm hK
  | inr b => cases hm; exact hK
set_option maxHeartbeats 4000000 in
set_option maxRecDepth 100000 in
theorem t_X11_digest_0 (X : gX p s m args meth c D cy B (gSt Z B H0) RX11 cX11_digest wsX11_digest 5) (hr : meth.sig.returnType = (some .long)) {Q : State → Prop} : ∀ (M : gMem) (x0 : Nat) (z : Int64 × gMem), b_X11_digest_0 M x0 = some z → (fun (r : Int64 × gMem) => Q = gMQ below D cy B H0 args s 0 0 (some (vJ r.1)) r.2) z → gGo p l e rX11_digest s m args below meth c D cy B H0 5 0 0 Q 0 [(0, vR (some x0))] [] M := by
  intro M x0 z hf hK
  unfold b_X11_digest_0 at hf
  refine g_ldc2 (v := (739 : Int64)) X k_X11_digest_c223 dX11_digest_0 ?_
  refine g_lstore_n (lv' := [(1, vJ (739 : Int64)), (0, vR (some x0))]) X dX11_digest_3 rfl (by decide) rfl ?_
  refine g_iconst (v := (0 : Int32)) X dX11_digest_4 (by decide) ?_
  refine g_istore_n (lv' := [(3, vI (0 : Int32)), (1, vJ (739 : Int64)), (0, vR (some x0))]) X dX11_digest_5 rfl (by decide) rfl ?_
  refine g_sub (lvsub_of _ _ [2, 1, 0] rfl) ?_
  exact tl_X11_digest_6 X hr _ _ _ _ _ hf hK
set_option maxHeartbeats 4000000 in
set_option maxRecDepth 100000 in
theorem m_X11_digest (l : Launch) {D : va_G} {cy : Nat → ClassId} {B : Nat} {H0 : Heap} {Z : Nat → Nat} {M M1 : gMem} {x0 : Nat} {r : Int64} (hf : f_X11_digest M x0 = some (r, M1)) : Met l yX11_digest wsX11_digest rX11_digest (va_Pc (Value.ref x0 :: List.map gv []) (gPre D cy B H0 (gSt Z B H0) M)) (gQ D cy B H0 (some (vJ r)) M1) 0 0 (gA B) := by
  refine Met.ofW (cc := cX11_digest) (maxL := 5) (ret := (some .long)) (by decide) rfl ?_
  intro p e s m args below meth c s₁ Bd hml hv
  obtain ⟨rfl, hW, hKK, hFs⟩ := hv
  have X : gX p s m _ meth c D cy B (gSt Z B H0) RX11 cX11_digest wsX11_digest 5 := ⟨Bd.exec, Bd.bytes, atoms_spec (ws := wsX11_digest) Bd.pre, findClass_of_methodNamed Bd.named, hml, hKK, by rw [hW.1]; exact hW.2.1, Bd.notSynchronized, hFs⟩
  have hr := Bd.returns
  have hl := lv_entry ([.ref x0]) (n := 5) (Nat.le_of_ble_eq_true rfl)
  show W p l e rX11_digest s m _ below meth c s.heap [] 0 0 _ (entryFrame m ([.ref x0] : List Value).toArray 5)
  rw [lg_entry_eq]
  generalize (lg_sl ([.ref x0]) ++ List.replicate (5 - (lg_sl ([.ref x0])).length) Slot.unset).toArray = ls at hl ⊢
  have hl : lv_has ls 5 (List.map gq [(0, vR (some x0))]) := hl
  exact t_X11_digest_0 X hr _ _ _ hf rfl s.heap [] ls hW va_S.rf (lv_has_sub hl (lvsub_of _ _ [0] rfl))
/-! ## TideLotsModel.digest()J -/
theorem dX14_digest_0 : decode cX14_digest 0 = .ok (.aload_n 0, 1) := by decide +kernel
theorem dX14_digest_1 : decode cX14_digest 1 = .ok (.iconst 0, 1) := by decide +kernel
theorem dX14_digest_2 : decode cX14_digest 2 = .ok (.putfield 57, 3) := by decide +kernel
theorem dX14_digest_5 : decode cX14_digest 5 = .ok (.ldc2_w 373, 3) := by decide +kernel
theorem dX14_digest_8 : decode cX14_digest 8 = .ok (.lstore_n 1, 1) := by decide +kernel
theorem dX14_digest_9 : decode cX14_digest 9 = .ok (.iconst 0, 1) := by decide +kernel
theorem dX14_digest_10 : decode cX14_digest 10 = .ok (.istore_n 3, 1) := by decide +kernel
theorem dX14_digest_11 : decode cX14_digest 11 = .ok (.iload_n 3, 1) := by decide +kernel
theorem dX14_digest_12 : decode cX14_digest 12 = .ok (.bipush 9, 2) := by decide +kernel
theorem dX14_digest_14 : decode cX14_digest 14 = .ok (.if_icmp .gt 22, 3) := by decide +kernel
theorem dX14_digest_17 : decode cX14_digest 17 = .ok (.lload_n 1, 1) := by decide +kernel
theorem dX14_digest_18 : decode cX14_digest 18 = .ok (.ldc2_w 375, 3) := by decide +kernel
theorem dX14_digest_21 : decode cX14_digest 21 = .ok (.lmul, 1) := by decide +kernel
theorem dX14_digest_22 : decode cX14_digest 22 = .ok (.aload_n 0, 1) := by decide +kernel
theorem dX14_digest_23 : decode cX14_digest 23 = .ok (.iload_n 3, 1) := by decide +kernel
theorem dX14_digest_24 : decode cX14_digest 24 = .ok (.invokevirtual 296, 3) := by decide +kernel
theorem dX14_digest_27 : decode cX14_digest 27 = .ok (.i2l, 1) := by decide +kernel
theorem dX14_digest_28 : decode cX14_digest 28 = .ok (.ladd, 1) := by decide +kernel
theorem dX14_digest_29 : decode cX14_digest 29 = .ok (.lstore_n 1, 1) := by decide +kernel
theorem dX14_digest_30 : decode cX14_digest 30 = .ok (.iinc 3 1, 3) := by decide +kernel
theorem dX14_digest_33 : decode cX14_digest 33 = .ok (.goto (-22), 3) := by decide +kernel
theorem dX14_digest_36 : decode cX14_digest 36 = .ok (.iconst 0, 1) := by decide +kernel
theorem dX14_digest_37 : decode cX14_digest 37 = .ok (.istore_n 3, 1) := by decide +kernel
theorem dX14_digest_38 : decode cX14_digest 38 = .ok (.iload_n 3, 1) := by decide +kernel
theorem dX14_digest_39 : decode cX14_digest 39 = .ok (.aload_n 0, 1) := by decide +kernel
theorem dX14_digest_40 : decode cX14_digest 40 = .ok (.getfield 35, 3) := by decide +kernel
theorem dX14_digest_43 : decode cX14_digest 43 = .ok (.getfield 60, 3) := by decide +kernel
theorem dX14_digest_46 : decode cX14_digest 46 = .ok (.if_icmp .ge 84, 3) := by decide +kernel
theorem dX14_digest_49 : decode cX14_digest 49 = .ok (.iconst 0, 1) := by decide +kernel
theorem dX14_digest_50 : decode cX14_digest 50 = .ok (.istore 4, 2) := by decide +kernel
theorem dX14_digest_52 : decode cX14_digest 52 = .ok (.iload 4, 2) := by decide +kernel
theorem dX14_digest_54 : decode cX14_digest 54 = .ok (.bipush 8, 2) := by decide +kernel
theorem dX14_digest_56 : decode cX14_digest 56 = .ok (.if_icmp .gt 24, 3) := by decide +kernel
theorem dX14_digest_59 : decode cX14_digest 59 = .ok (.lload_n 1, 1) := by decide +kernel
theorem dX14_digest_60 : decode cX14_digest 60 = .ok (.ldc2_w 375, 3) := by decide +kernel
theorem dX14_digest_63 : decode cX14_digest 63 = .ok (.lmul, 1) := by decide +kernel
theorem dX14_digest_64 : decode cX14_digest 64 = .ok (.aload_n 0, 1) := by decide +kernel
theorem dX14_digest_65 : decode cX14_digest 65 = .ok (.iload_n 3, 1) := by decide +kernel
theorem dX14_digest_66 : decode cX14_digest 66 = .ok (.iload 4, 2) := by decide +kernel
theorem dX14_digest_68 : decode cX14_digest 68 = .ok (.invokevirtual 314, 3) := by decide +kernel
theorem dX14_digest_71 : decode cX14_digest 71 = .ok (.i2l, 1) := by decide +kernel
theorem dX14_digest_72 : decode cX14_digest 72 = .ok (.ladd, 1) := by decide +kernel
theorem dX14_digest_73 : decode cX14_digest 73 = .ok (.lstore_n 1, 1) := by decide +kernel
theorem dX14_digest_74 : decode cX14_digest 74 = .ok (.iinc 4 1, 3) := by decide +kernel
theorem dX14_digest_77 : decode cX14_digest 77 = .ok (.goto (-25), 3) := by decide +kernel
theorem dX14_digest_80 : decode cX14_digest 80 = .ok (.iconst 0, 1) := by decide +kernel
theorem dX14_digest_81 : decode cX14_digest 81 = .ok (.istore 4, 2) := by decide +kernel
theorem dX14_digest_83 : decode cX14_digest 83 = .ok (.iload 4, 2) := by decide +kernel
theorem dX14_digest_85 : decode cX14_digest 85 = .ok (.aload_n 0, 1) := by decide +kernel
theorem dX14_digest_86 : decode cX14_digest 86 = .ok (.getfield 35, 3) := by decide +kernel
theorem dX14_digest_89 : decode cX14_digest 89 = .ok (.getfield 67, 3) := by decide +kernel
theorem dX14_digest_92 : decode cX14_digest 92 = .ok (.if_icmp .ge 32, 3) := by decide +kernel
theorem dX14_digest_95 : decode cX14_digest 95 = .ok (.lload_n 1, 1) := by decide +kernel
theorem dX14_digest_96 : decode cX14_digest 96 = .ok (.ldc2_w 375, 3) := by decide +kernel
theorem dX14_digest_99 : decode cX14_digest 99 = .ok (.lmul, 1) := by decide +kernel
theorem dX14_digest_100 : decode cX14_digest 100 = .ok (.aload_n 0, 1) := by decide +kernel
theorem dX14_digest_101 : decode cX14_digest 101 = .ok (.getfield 47, 3) := by decide +kernel
theorem dX14_digest_104 : decode cX14_digest 104 = .ok (.getfield 299, 3) := by decide +kernel
theorem dX14_digest_107 : decode cX14_digest 107 = .ok (.bipush 8, 2) := by decide +kernel
theorem dX14_digest_109 : decode cX14_digest 109 = .ok (.iload_n 3, 1) := by decide +kernel
theorem dX14_digest_110 : decode cX14_digest 110 = .ok (.imul, 1) := by decide +kernel
theorem dX14_digest_111 : decode cX14_digest 111 = .ok (.iload 4, 2) := by decide +kernel
theorem dX14_digest_113 : decode cX14_digest 113 = .ok (.iadd, 1) := by decide +kernel
theorem dX14_digest_114 : decode cX14_digest 114 = .ok (.iaload, 1) := by decide +kernel
theorem dX14_digest_115 : decode cX14_digest 115 = .ok (.i2l, 1) := by decide +kernel
theorem dX14_digest_116 : decode cX14_digest 116 = .ok (.ladd, 1) := by decide +kernel
theorem dX14_digest_117 : decode cX14_digest 117 = .ok (.lstore_n 1, 1) := by decide +kernel
theorem dX14_digest_118 : decode cX14_digest 118 = .ok (.iinc 4 1, 3) := by decide +kernel
theorem dX14_digest_121 : decode cX14_digest 121 = .ok (.goto (-38), 3) := by decide +kernel
theorem dX14_digest_124 : decode cX14_digest 124 = .ok (.iinc 3 1, 3) := by decide +kernel
theorem dX14_digest_127 : decode cX14_digest 127 = .ok (.goto (-89), 3) := by decide +kernel
theorem dX14_digest_130 : decode cX14_digest 130 = .ok (.iconst 0, 1) := by decide +kernel
theorem dX14_digest_131 : decode cX14_digest 131 = .ok (.istore_n 3, 1) := by decide +kernel
theorem dX14_digest_132 : decode cX14_digest 132 = .ok (.iload_n 3, 1) := by decide +kernel
theorem dX14_digest_133 : decode cX14_digest 133 = .ok (.aload_n 0, 1) := by decide +kernel
theorem dX14_digest_134 : decode cX14_digest 134 = .ok (.getfield 35, 3) := by decide +kernel
theorem dX14_digest_137 : decode cX14_digest 137 = .ok (.getfield 67, 3) := by decide +kernel
theorem dX14_digest_140 : decode cX14_digest 140 = .ok (.if_icmp .ge 40, 3) := by decide +kernel
theorem dX14_digest_143 : decode cX14_digest 143 = .ok (.iconst 0, 1) := by decide +kernel
theorem dX14_digest_144 : decode cX14_digest 144 = .ok (.istore 4, 2) := by decide +kernel
theorem dX14_digest_146 : decode cX14_digest 146 = .ok (.iload 4, 2) := by decide +kernel
theorem dX14_digest_148 : decode cX14_digest 148 = .ok (.bipush 9, 2) := by decide +kernel
theorem dX14_digest_150 : decode cX14_digest 150 = .ok (.if_icmp .gt 24, 3) := by decide +kernel
theorem dX14_digest_153 : decode cX14_digest 153 = .ok (.lload_n 1, 1) := by decide +kernel
theorem dX14_digest_154 : decode cX14_digest 154 = .ok (.ldc2_w 375, 3) := by decide +kernel
theorem dX14_digest_157 : decode cX14_digest 157 = .ok (.lmul, 1) := by decide +kernel
theorem dX14_digest_158 : decode cX14_digest 158 = .ok (.aload_n 0, 1) := by decide +kernel
theorem dX14_digest_159 : decode cX14_digest 159 = .ok (.iload_n 3, 1) := by decide +kernel
theorem dX14_digest_160 : decode cX14_digest 160 = .ok (.iload 4, 2) := by decide +kernel
theorem dX14_digest_162 : decode cX14_digest 162 = .ok (.invokevirtual 332, 3) := by decide +kernel
theorem dX14_digest_165 : decode cX14_digest 165 = .ok (.i2l, 1) := by decide +kernel
theorem dX14_digest_166 : decode cX14_digest 166 = .ok (.ladd, 1) := by decide +kernel
theorem dX14_digest_167 : decode cX14_digest 167 = .ok (.lstore_n 1, 1) := by decide +kernel
theorem dX14_digest_168 : decode cX14_digest 168 = .ok (.iinc 4 1, 3) := by decide +kernel
theorem dX14_digest_171 : decode cX14_digest 171 = .ok (.goto (-25), 3) := by decide +kernel
theorem dX14_digest_174 : decode cX14_digest 174 = .ok (.iinc 3 1, 3) := by decide +kernel
theorem dX14_digest_177 : decode cX14_digest 177 = .ok (.goto (-45), 3) := by decide +kernel
theorem dX14_digest_180 : decode cX14_digest 180 = .ok (.iconst 0, 1) := by decide +kernel
theorem dX14_digest_181 : decode cX14_digest 181 = .ok (.istore_n 3, 1) := by decide +kernel
theorem dX14_digest_182 : decode cX14_digest 182 = .ok (.iload_n 3, 1) := by decide +kernel
theorem dX14_digest_183 : decode cX14_digest 183 = .ok (.aload_n 0, 1) := by decide +kernel
theorem dX14_digest_184 : decode cX14_digest 184 = .ok (.getfield 35, 3) := by decide +kernel
theorem dX14_digest_187 : decode cX14_digest 187 = .ok (.getfield 222, 3) := by decide +kernel
theorem dX14_digest_190 : decode cX14_digest 190 = .ok (.if_icmp .ge 40, 3) := by decide +kernel
theorem dX14_digest_193 : decode cX14_digest 193 = .ok (.iconst 0, 1) := by decide +kernel
theorem dX14_digest_194 : decode cX14_digest 194 = .ok (.istore 4, 2) := by decide +kernel
theorem dX14_digest_196 : decode cX14_digest 196 = .ok (.iload 4, 2) := by decide +kernel
theorem dX14_digest_198 : decode cX14_digest 198 = .ok (.bipush 6, 2) := by decide +kernel
theorem dX14_digest_200 : decode cX14_digest 200 = .ok (.if_icmp .gt 24, 3) := by decide +kernel
theorem dX14_digest_203 : decode cX14_digest 203 = .ok (.lload_n 1, 1) := by decide +kernel
theorem dX14_digest_204 : decode cX14_digest 204 = .ok (.ldc2_w 375, 3) := by decide +kernel
theorem dX14_digest_207 : decode cX14_digest 207 = .ok (.lmul, 1) := by decide +kernel
theorem dX14_digest_208 : decode cX14_digest 208 = .ok (.aload_n 0, 1) := by decide +kernel
theorem dX14_digest_209 : decode cX14_digest 209 = .ok (.iload_n 3, 1) := by decide +kernel
theorem dX14_digest_210 : decode cX14_digest 210 = .ok (.iload 4, 2) := by decide +kernel
theorem dX14_digest_212 : decode cX14_digest 212 = .ok (.invokevirtual 344, 3) := by decide +kernel
theorem dX14_digest_215 : decode cX14_digest 215 = .ok (.i2l, 1) := by decide +kernel
theorem dX14_digest_216 : decode cX14_digest 216 = .ok (.ladd, 1) := by decide +kernel
theorem dX14_digest_217 : decode cX14_digest 217 = .ok (.lstore_n 1, 1) := by decide +kernel
theorem dX14_digest_218 : decode cX14_digest 218 = .ok (.iinc 4 1, 3) := by decide +kernel
theorem dX14_digest_221 : decode cX14_digest 221 = .ok (.goto (-25), 3) := by decide +kernel
theorem dX14_digest_224 : decode cX14_digest 224 = .ok (.iinc 3 1, 3) := by decide +kernel
theorem dX14_digest_227 : decode cX14_digest 227 = .ok (.goto (-45), 3) := by decide +kernel
theorem dX14_digest_230 : decode cX14_digest 230 = .ok (.iconst 0, 1) := by decide +kernel
theorem dX14_digest_231 : decode cX14_digest 231 = .ok (.istore_n 3, 1) := by decide +kernel
theorem dX14_digest_232 : decode cX14_digest 232 = .ok (.iload_n 3, 1) := by decide +kernel
theorem dX14_digest_233 : decode cX14_digest 233 = .ok (.aload_n 0, 1) := by decide +kernel
theorem dX14_digest_234 : decode cX14_digest 234 = .ok (.getfield 35, 3) := by decide +kernel
theorem dX14_digest_237 : decode cX14_digest 237 = .ok (.getfield 67, 3) := by decide +kernel
theorem dX14_digest_240 : decode cX14_digest 240 = .ok (.if_icmp .ge 22, 3) := by decide +kernel
theorem dX14_digest_243 : decode cX14_digest 243 = .ok (.lload_n 1, 1) := by decide +kernel
theorem dX14_digest_244 : decode cX14_digest 244 = .ok (.ldc2_w 375, 3) := by decide +kernel
theorem dX14_digest_247 : decode cX14_digest 247 = .ok (.lmul, 1) := by decide +kernel
theorem dX14_digest_248 : decode cX14_digest 248 = .ok (.aload_n 0, 1) := by decide +kernel
theorem dX14_digest_249 : decode cX14_digest 249 = .ok (.iload_n 3, 1) := by decide +kernel
theorem dX14_digest_250 : decode cX14_digest 250 = .ok (.invokevirtual 356, 3) := by decide +kernel
theorem dX14_digest_253 : decode cX14_digest 253 = .ok (.i2l, 1) := by decide +kernel
theorem dX14_digest_254 : decode cX14_digest 254 = .ok (.ladd, 1) := by decide +kernel
theorem dX14_digest_255 : decode cX14_digest 255 = .ok (.lstore_n 1, 1) := by decide +kernel
theorem dX14_digest_256 : decode cX14_digest 256 = .ok (.iinc 3 1, 3) := by decide +kernel
theorem dX14_digest_259 : decode cX14_digest 259 = .ok (.goto (-27), 3) := by decide +kernel
theorem dX14_digest_262 : decode cX14_digest 262 = .ok (.lload_n 1, 1) := by decide +kernel
theorem dX14_digest_263 : decode cX14_digest 263 = .ok (.lreturn, 1) := by decide +kernel
set_option maxRecDepth 20000 in
theorem ggX14_digest_X14_lotOf : GoodIn wsX14_digest wsX14_lotOf := goodIn_2 24 (goodIn_rr wsB_X14_digest_in _ [(2, 21), (2, 22), (1, 4), (2, 23), (3, 0), (3, 1), (1, 15), (3, 2), (3, 3), (3, 4), (3, 5), (3, 6), (3, 7), (3, 8), (3, 9), (3, 10), (3, 11), (4, 0), (4, 1), (4, 2), (4, 3), (4, 4), (4, 5), (4, 6)] (by decide +kernel) (by decide +kernel)) (goodIn_2 24 (goodIn_rr wsB_X14_digest_in _ [(4, 7), (4, 8), (4, 9), (4, 10), (4, 11), (4, 12), (4, 13), (4, 14), (6, 0), (6, 1), (6, 2), (6, 3), (6, 4), (6, 5), (6, 6), (6, 7), (6, 8), (6, 9), (6, 10), (6, 11), (6, 12), (6, 13), (6, 14), (6, 15)] (by decide +kernel) (by decide +kernel)) (goodIn_2 24 (goodIn_rr wsB_X14_digest_in _ [(6, 16), (6, 17), (6, 18), (5, 0), (5, 1), (5, 2), (5, 3), (5, 4), (5, 5), (5, 6), (5, 7), (5, 8), (5, 9), (5, 10), (5, 11), (5, 12), (5, 13), (5, 14), (5, 15), (5, 16), (5, 17), (5, 18), (5, 19), (5, 20)] (by decide +kernel) (by decide +kernel)) (goodIn_rr wsB_X14_digest_in _ [(5, 21), (5, 22), (5, 23), (5, 24)] (by decide +kernel) (by decide +kernel))))
set_option maxRecDepth 20000 in
theorem gX14_digest_X14_lotOf : GoodIn wsX14_digest (wsV RX14 356 RX14 yX14_lotOf wsX14_lotOf) := goodIn_app (goodIn_rr wsB_X14_digest_in _ [(2, 18), (2, 19), (2, 20), (1, 8)] (by decide +kernel) (by decide +kernel)) ggX14_digest_X14_lotOf
set_option maxRecDepth 20000 in
theorem ggX14_digest_X14_pactTold : GoodIn wsX14_digest wsX14_pactTold := goodIn_2 24 (goodIn_rr wsB_X14_digest_in _ [(2, 17), (1, 10), (1, 3), (1, 4), (4, 0), (4, 1), (4, 2), (4, 3), (4, 4), (4, 5), (4, 6), (4, 7), (4, 8), (4, 9), (4, 10), (4, 11), (4, 12), (4, 13), (4, 14), (5, 0), (5, 1), (5, 2), (5, 3), (5, 4)] (by decide +kernel) (by decide +kernel)) (goodIn_2 24 (goodIn_rr wsB_X14_digest_in _ [(5, 5), (5, 6), (5, 7), (5, 8), (5, 9), (5, 10), (5, 11), (5, 12), (5, 13), (5, 14), (5, 15), (5, 16), (5, 17), (5, 18), (5, 19), (5, 20), (5, 21), (5, 22), (5, 23), (5, 24), (6, 0), (6, 1), (6, 2), (6, 3)] (by decide +kernel) (by decide +kernel)) (goodIn_rr wsB_X14_digest_in _ [(6, 4), (6, 5), (6, 6), (6, 7), (6, 8), (6, 9), (6, 10), (6, 11), (6, 12), (6, 13), (6, 14), (6, 15), (6, 16), (6, 17), (6, 18)] (by decide +kernel) (by decide +kernel)))
set_option maxRecDepth 20000 in
theorem gX14_digest_X14_pactTold : GoodIn wsX14_digest (wsV RX14 344 RX14 yX14_pactTold wsX14_pactTold) := goodIn_app (goodIn_rr wsB_X14_digest_in _ [(2, 14), (2, 15), (2, 16), (1, 8)] (by decide +kernel) (by decide +kernel)) ggX14_digest_X14_pactTold
set_option maxRecDepth 20000 in
theorem ggX14_digest_X14_fisherTold : GoodIn wsX14_digest wsX14_fisherTold := goodIn_2 24 (goodIn_rr wsB_X14_digest_in _ [(2, 9), (1, 10), (1, 4), (1, 3), (2, 10), (2, 11), (2, 12), (1, 8), (2, 13), (4, 0), (4, 1), (4, 2), (4, 3), (4, 4), (4, 5), (4, 6), (4, 7), (4, 8), (4, 9), (4, 10), (4, 11), (4, 12), (4, 13), (4, 14)] (by decide +kernel) (by decide +kernel)) (goodIn_2 24 (goodIn_rr wsB_X14_digest_in _ [(6, 0), (6, 1), (6, 2), (6, 3), (6, 4), (6, 5), (6, 6), (6, 7), (6, 8), (6, 9), (6, 10), (6, 11), (6, 12), (6, 13), (6, 14), (6, 15), (6, 16), (6, 17), (6, 18), (5, 0), (5, 1), (5, 2), (5, 3), (5, 4)] (by decide +kernel) (by decide +kernel)) (goodIn_rr wsB_X14_digest_in _ [(5, 5), (5, 6), (5, 7), (5, 8), (5, 9), (5, 10), (5, 11), (5, 12), (5, 13), (5, 14), (5, 15), (5, 16), (5, 17), (5, 18), (5, 19), (5, 20), (5, 21), (5, 22), (5, 23), (5, 24)] (by decide +kernel) (by decide +kernel)))
set_option maxRecDepth 20000 in
theorem gX14_digest_X14_fisherTold : GoodIn wsX14_digest (wsV RX14 332 RX14 yX14_fisherTold wsX14_fisherTold) := goodIn_app (goodIn_rr wsB_X14_digest_in _ [(2, 6), (2, 7), (2, 8), (1, 8)] (by decide +kernel) (by decide +kernel)) ggX14_digest_X14_fisherTold
set_option maxRecDepth 20000 in
theorem ggX14_digest_X14_groundTold : GoodIn wsX14_digest wsX14_groundTold := goodIn_2 24 (goodIn_rr wsB_X14_digest_in _ [(1, 20), (1, 4), (1, 3), (1, 21), (1, 22), (1, 23), (1, 15), (2, 0), (2, 1), (2, 2), (2, 3), (2, 4), (1, 8), (2, 5), (4, 0), (4, 1), (4, 2), (4, 3), (4, 4), (4, 5), (4, 6), (4, 7), (4, 8), (4, 9)] (by decide +kernel) (by decide +kernel)) (goodIn_2 24 (goodIn_rr wsB_X14_digest_in _ [(4, 10), (4, 11), (4, 12), (4, 13), (4, 14), (6, 0), (6, 1), (6, 2), (6, 3), (6, 4), (6, 5), (6, 6), (6, 7), (6, 8), (6, 9), (6, 10), (6, 11), (6, 12), (6, 13), (6, 14), (6, 15), (6, 16), (6, 17), (6, 18)] (by decide +kernel) (by decide +kernel)) (goodIn_2 24 (goodIn_rr wsB_X14_digest_in _ [(5, 0), (5, 1), (5, 2), (5, 3), (5, 4), (5, 5), (5, 6), (5, 7), (5, 8), (5, 9), (5, 10), (5, 11), (5, 12), (5, 13), (5, 14), (5, 15), (5, 16), (5, 17), (5, 18), (5, 19), (5, 20), (5, 21), (5, 22), (5, 23)] (by decide +kernel) (by decide +kernel)) (goodIn_rr wsB_X14_digest_in _ [(5, 24)] (by decide +kernel) (by decide +kernel))))
set_option maxRecDepth 20000 in
theorem gX14_digest_X14_groundTold : GoodIn wsX14_digest (wsV RX14 314 RX14 yX14_groundTold wsX14_groundTold) := goodIn_app (goodIn_rr wsB_X14_digest_in _ [(1, 17), (1, 18), (1, 19), (1, 8)] (by decide +kernel) (by decide +kernel)) ggX14_digest_X14_groundTold
set_option maxRecDepth 20000 in
theorem ggX14_digest_X14_counted : GoodIn wsX14_digest wsX14_counted := goodIn_2 24 (goodIn_rr wsB_X14_digest_in _ [(1, 9), (1, 3), (1, 4), (1, 10), (1, 11), (1, 12), (1, 13), (1, 14), (1, 15), (1, 16), (4, 0), (4, 1), (4, 2), (4, 3), (4, 4), (4, 5), (4, 6), (4, 7), (4, 8), (4, 9), (4, 10), (4, 11), (4, 12), (4, 13)] (by decide +kernel) (by decide +kernel)) (goodIn_2 24 (goodIn_rr wsB_X14_digest_in _ [(4, 14), (5, 0), (5, 1), (5, 2), (5, 3), (5, 4), (5, 5), (5, 6), (5, 7), (5, 8), (5, 9), (5, 10), (5, 11), (5, 12), (5, 13), (5, 14), (5, 15), (5, 16), (5, 17), (5, 18), (5, 19), (5, 20), (5, 21), (5, 22)] (by decide +kernel) (by decide +kernel)) (goodIn_rr wsB_X14_digest_in _ [(5, 23), (5, 24), (6, 0), (6, 1), (6, 2), (6, 3), (6, 4), (6, 5), (6, 6), (6, 7), (6, 8), (6, 9), (6, 10), (6, 11), (6, 12), (6, 13), (6, 14), (6, 15), (6, 16), (6, 17), (6, 18)] (by decide +kernel) (by decide +kernel)))
set_option maxRecDepth 20000 in
theorem gX14_digest_X14_counted : GoodIn wsX14_digest (wsV RX14 296 RX14 yX14_counted wsX14_counted) := goodIn_app (goodIn_rr wsB_X14_digest_in _ [(1, 5), (1, 6), (1, 7), (1, 8)] (by decide +kernel) (by decide +kernel)) ggX14_digest_X14_counted
theorem k_X14_digest_f35 : Cond.fieldLink RX14 35 "TideLotsModel" "told" "LTideLotsModel$Told;" ∈ wsX14_digest := by decide +kernel
theorem i_X14_digest_X14 : ∀ w ∈ u_ws RX14 TX14 15, w ∈ wsX14_digest := by decide +kernel
theorem i_X14_digest_X13 : ∀ w ∈ u_ws RX13 TX13 25, w ∈ wsX14_digest := by decide +kernel
theorem k_X14_digest_c375 : Jvm.Cond.constantLong RX14 375 (31) ∈ wsX14_digest := by decide +kernel
theorem k_X14_digest_f47 : Cond.fieldLink RX14 47 "TideLotsModel" "s" "LTideLotsModel$State;" ∈ wsX14_digest := by decide +kernel
theorem i_X14_digest_X12 : ∀ w ∈ u_ws RX12 TX12 19, w ∈ wsX14_digest := by decide +kernel
theorem k_X14_digest_f57 : Cond.fieldLink RX14 57 "TideLotsModel" "thrown" "I" ∈ wsX14_digest := by decide +kernel
theorem k_X14_digest_c373 : Jvm.Cond.constantLong RX14 373 (739) ∈ wsX14_digest := by decide +kernel
abbrev rX14_digest : Room := { frames := 3, cells := 140, slots := 1400, locals := 104 }
noncomputable def bb_X14_digest_232 (N0 : Nat) (M : gMem) (x0 : Nat) (x1 : Int64) (x3 : Int32) : Option ((gMem × Int64 × Int32) ⊕ (Int64 × gMem)) :=
  ck (mT M x0 = 13) <| dr ((mR M x0 11)) fun a2 => ck (mT M a2 = 12) <| (if (mI M a2 4) ≤ x3 then ck (mN M ≤ N0 + 140) <| oI (some (x1, M)) else ck (mN M + 0 ≤ N0 + 140) <| bd (f_X14_lotOf M x0 x3) fun r6 M6 => ck (mN M6 = mN M + 0) <| some (.inl (M6, ((x1 * (31 : Int64)) + (Int32.toInt64 r6)), (x3 + (1 : Int32)))))
noncomputable def lp_X14_digest_232 (N0 : Nat) (M : gMem) (x0 : Nat) (x1 : Int64) (x3 : Int32) : Option (Int64 × gMem) :=
  lp (fun (q : gMem × Int64 × Int32) => bb_X14_digest_232 N0 q.1 x0 q.2.1 q.2.2) (M, x1, x3)
noncomputable def bb_X14_digest_196 (N0 : Nat) (M : gMem) (x0 : Nat) (x1 : Int64) (x3 : Int32) (x4 : Int32) : Option ((gMem × Int64 × Int32) ⊕ ((gMem × Int64 × Int32) ⊕ (Int64 × gMem))) :=
  (if (6 : Int32) < x4 then oI (some (.inl (M, x1, (x3 + (1 : Int32))))) else ck (mT M x0 = 13) <| ck (mN M + 1 ≤ N0 + 140) <| bd (f_X14_pactTold M x0 x3 x4) fun r10 M10 => ck (mN M10 = mN M + 1) <| some (.inl (M10, ((x1 * (31 : Int64)) + (Int32.toInt64 r10)), (x4 + (1 : Int32)))))
noncomputable def lp_X14_digest_196 (N0 : Nat) (M : gMem) (x0 : Nat) (x1 : Int64) (x3 : Int32) (x4 : Int32) : Option ((gMem × Int64 × Int32) ⊕ (Int64 × gMem)) :=
  lp (fun (q : gMem × Int64 × Int32) => bb_X14_digest_196 N0 q.1 x0 q.2.1 x3 q.2.2) (M, x1, x4)
noncomputable def bb_X14_digest_182 (N0 : Nat) (M : gMem) (x0 : Nat) (x1 : Int64) (x3 : Int32) : Option ((gMem × Int64 × Int32) ⊕ (Int64 × gMem)) :=
  ck (mT M x0 = 13) <| dr ((mR M x0 11)) fun a15 => ck (mT M a15 = 12) <| (if (mI M a15 11) ≤ x3 then oI (lp_X14_digest_232 N0 M x0 x1 ((0 : Int32))) else lp_X14_digest_196 N0 M x0 x1 x3 ((0 : Int32)))
noncomputable def lp_X14_digest_182 (N0 : Nat) (M : gMem) (x0 : Nat) (x1 : Int64) (x3 : Int32) : Option (Int64 × gMem) :=
  lp (fun (q : gMem × Int64 × Int32) => bb_X14_digest_182 N0 q.1 x0 q.2.1 q.2.2) (M, x1, x3)
noncomputable def bb_X14_digest_146 (N0 : Nat) (M : gMem) (x0 : Nat) (x1 : Int64) (x3 : Int32) (x4 : Int32) : Option ((gMem × Int64 × Int32) ⊕ ((gMem × Int64 × Int32) ⊕ (Int64 × gMem))) :=
  (if (9 : Int32) < x4 then oI (some (.inl (M, x1, (x3 + (1 : Int32))))) else ck (mT M x0 = 13) <| ck (mN M + 1 ≤ N0 + 140) <| bd (f_X14_fisherTold M x0 x3 x4) fun r19 M19 => ck (mN M19 = mN M + 1) <| some (.inl (M19, ((x1 * (31 : Int64)) + (Int32.toInt64 r19)), (x4 + (1 : Int32)))))
noncomputable def lp_X14_digest_146 (N0 : Nat) (M : gMem) (x0 : Nat) (x1 : Int64) (x3 : Int32) (x4 : Int32) : Option ((gMem × Int64 × Int32) ⊕ (Int64 × gMem)) :=
  lp (fun (q : gMem × Int64 × Int32) => bb_X14_digest_146 N0 q.1 x0 q.2.1 x3 q.2.2) (M, x1, x4)
noncomputable def bb_X14_digest_132 (N0 : Nat) (M : gMem) (x0 : Nat) (x1 : Int64) (x3 : Int32) : Option ((gMem × Int64 × Int32) ⊕ (Int64 × gMem)) :=
  ck (mT M x0 = 13) <| dr ((mR M x0 11)) fun a24 => ck (mT M a24 = 12) <| (if (mI M a24 4) ≤ x3 then oI (lp_X14_digest_182 N0 M x0 x1 ((0 : Int32))) else lp_X14_digest_146 N0 M x0 x1 x3 ((0 : Int32)))
noncomputable def lp_X14_digest_132 (N0 : Nat) (M : gMem) (x0 : Nat) (x1 : Int64) (x3 : Int32) : Option (Int64 × gMem) :=
  lp (fun (q : gMem × Int64 × Int32) => bb_X14_digest_132 N0 q.1 x0 q.2.1 q.2.2) (M, x1, x3)
noncomputable def bb_X14_digest_83 (N0 : Nat) (M : gMem) (x0 : Nat) (x1 : Int64) (x3 : Int32) (x4 : Int32) : Option ((gMem × Int64 × Int32) ⊕ ((gMem × Int64 × Int32) ⊕ (Int64 × gMem))) :=
  ck (mT M x0 = 13) <| dr ((mR M x0 11)) fun a28 => ck (mT M a28 = 12) <| (if (mI M a28 4) ≤ x4 then oI (some (.inl (M, x1, (x3 + (1 : Int32))))) else dr ((mR M x0 13)) fun a31 => ck (mT M a31 = 11) <| dr ((mR M a31 4)) fun a33 => ck (mT M a33 = 20) <| ck (inb (((8 : Int32) * x3) + x4) (mL M a33)) <| some (.inl (M, ((x1 * (31 : Int64)) + (Int32.toInt64 (mI M a33 ((((8 : Int32) * x3) + x4)).toNatClampNeg))), (x4 + (1 : Int32)))))
noncomputable def lp_X14_digest_83 (N0 : Nat) (M : gMem) (x0 : Nat) (x1 : Int64) (x3 : Int32) (x4 : Int32) : Option ((gMem × Int64 × Int32) ⊕ (Int64 × gMem)) :=
  lp (fun (q : gMem × Int64 × Int32) => bb_X14_digest_83 N0 q.1 x0 q.2.1 x3 q.2.2) (M, x1, x4)
noncomputable def bb_X14_digest_52 (N0 : Nat) (M : gMem) (x0 : Nat) (x1 : Int64) (x3 : Int32) (x4 : Int32) : Option ((gMem × Int64 × Int32) ⊕ ((gMem × Int64 × Int32) ⊕ (Int64 × gMem))) :=
  (if (8 : Int32) < x4 then oI (lp_X14_digest_83 N0 M x0 x1 x3 ((0 : Int32))) else ck (mT M x0 = 13) <| ck (mN M + 0 ≤ N0 + 140) <| bd (f_X14_groundTold M x0 x3 x4) fun r37 M37 => ck (mN M37 = mN M + 0) <| some (.inl (M37, ((x1 * (31 : Int64)) + (Int32.toInt64 r37)), (x4 + (1 : Int32)))))
noncomputable def lp_X14_digest_52 (N0 : Nat) (M : gMem) (x0 : Nat) (x1 : Int64) (x3 : Int32) (x4 : Int32) : Option ((gMem × Int64 × Int32) ⊕ (Int64 × gMem)) :=
  lp (fun (q : gMem × Int64 × Int32) => bb_X14_digest_52 N0 q.1 x0 q.2.1 x3 q.2.2) (M, x1, x4)
noncomputable def bb_X14_digest_38 (N0 : Nat) (M : gMem) (x0 : Nat) (x1 : Int64) (x3 : Int32) : Option ((gMem × Int64 × Int32) ⊕ (Int64 × gMem)) :=
  ck (mT M x0 = 13) <| dr ((mR M x0 11)) fun a42 => ck (mT M a42 = 12) <| (if (mI M a42 0) ≤ x3 then oI (lp_X14_digest_132 N0 M x0 x1 ((0 : Int32))) else lp_X14_digest_52 N0 M x0 x1 x3 ((0 : Int32)))
noncomputable def lp_X14_digest_38 (N0 : Nat) (M : gMem) (x0 : Nat) (x1 : Int64) (x3 : Int32) : Option (Int64 × gMem) :=
  lp (fun (q : gMem × Int64 × Int32) => bb_X14_digest_38 N0 q.1 x0 q.2.1 q.2.2) (M, x1, x3)
noncomputable def bb_X14_digest_11 (N0 : Nat) (M : gMem) (x0 : Nat) (x1 : Int64) (x3 : Int32) : Option ((gMem × Int64 × Int32) ⊕ (Int64 × gMem)) :=
  (if (9 : Int32) < x3 then oI (lp_X14_digest_38 N0 M x0 x1 ((0 : Int32))) else ck (mT M x0 = 13) <| ck (mN M + 1 ≤ N0 + 140) <| bd (f_X14_counted M x0 x3) fun r46 M46 => ck (mN M46 = mN M + 1) <| some (.inl (M46, ((x1 * (31 : Int64)) + (Int32.toInt64 r46)), (x3 + (1 : Int32)))))
noncomputable def lp_X14_digest_11 (N0 : Nat) (M : gMem) (x0 : Nat) (x1 : Int64) (x3 : Int32) : Option (Int64 × gMem) :=
  lp (fun (q : gMem × Int64 × Int32) => bb_X14_digest_11 N0 q.1 x0 q.2.1 q.2.2) (M, x1, x3)
noncomputable def b_X14_digest_0 (N0 : Nat) (M : gMem) (x0 : Nat) : Option (Int64 × gMem) :=
  ck (mT M x0 = 13) <| lw (wI M x0 0 ((0 : Int32))) fun M51 => lp_X14_digest_11 N0 M51 x0 ((739 : Int64)) ((0 : Int32))
noncomputable def f_X14_digest (M : gMem) (x0 : Nat) : Option (Int64 × gMem) :=
  b_X14_digest_0 (mN M) M x0
set_option maxHeartbeats 4000000 in
set_option maxRecDepth 100000 in
theorem tb_X14_digest_232 (X : gX p s m args meth c D cy B (gSt Z B H0) RX14 cX14_digest wsX14_digest 5) (hr : meth.sig.returnType = (some .long)) {N0 : Nat} {Q : State → Prop} : ∀ (M : gMem) (x0 : Nat) (x1 : Int64) (x3 : Int32) (z : (gMem × Int64 × Int32) ⊕ (Int64 × gMem)), bb_X14_digest_232 N0 M x0 x1 x3 = some z → (Sum.elim (fun (q : gMem × Int64 × Int32) => N0 ≤ mN q.1 → gGo p l e rX14_digest s m args below meth c D cy B H0 5 (mN q.1 - N0) (10 * (mN q.1 - N0)) Q 232 [(0, vR (some x0)), (1, vJ q.2.1), (3, vI q.2.2)] [] q.1) (fun (r : Int64 × gMem) => Q = gMQ below D cy B H0 args s 140 1400 (some (vJ r.1)) r.2)) z → N0 ≤ mN M → gGo p l e rX14_digest s m args below meth c D cy B H0 5 (mN M - N0) (10 * (mN M - N0)) Q 232 [(0, vR (some x0)), (1, vJ x1), (3, vI x3)] [] M := by
  intro M x0 x1 x3 z hf hK hN0
  unfold bb_X14_digest_232 at hf
  refine g_iload_n X dX14_digest_232 rfl rfl ?_
  refine g_aload_n X dX14_digest_233 rfl rfl ?_
  obtain ⟨hT1, hf⟩ := ck_e hf
  refine g_get (ci := 12) (v := vR (mR M x0 11)) 11 X cdX14 i_X14_digest_X14 (by decide) k_X14_digest_f35 rfl dX14_digest_234 rfl hT1 rfl ?_
  obtain ⟨a2, ha2, hf⟩ := dr_e hf
  obtain ⟨hT3, hf⟩ := ck_e hf
  refine g_getN (ci := 11) (w := vI (mI M a2 4)) 4 X cdX13 i_X14_digest_X13 (by decide) (gNw X _ kn_X14_67) rfl dX14_digest_237 ha2 hT3 rfl ?_
  refine g_icmp_ge (tgt := 262) X dX14_digest_240 (by decide) (fun hc => ?_) (fun hc => ?_)
  · have hf := ife_t hc hf
    refine g_lload_n X dX14_digest_262 rfl rfl ?_
    obtain ⟨hg4, hf⟩ := ck_e hf
    obtain ⟨w5, hw5, hz5⟩ := oI_e hf
    subst hz5
    have hf := hw5
    cases hf
    refine g_eqQ hK ?_
    refine g_wide (k' := 140) (n' := 1400) (by omega) (by omega) ?_
    exact g_lret X hr dX14_digest_263
  · have hf := ife_f hc hf
    refine g_lload_n X dX14_digest_243 rfl rfl ?_
    refine g_ldc2 (v := (31 : Int64)) X k_X14_digest_c375 dX14_digest_244 ?_
    refine g_lmul X dX14_digest_247 ?_
    refine g_aload_n X dX14_digest_248 rfl rfl ?_
    refine g_iload_n X dX14_digest_249 rfl rfl ?_
    obtain ⟨hg7, hf⟩ := ck_e hf
    obtain ⟨r6, M6, hq6, hf⟩ := bd_e hf
    obtain ⟨hg8, hf⟩ := ck_e hf
    refine g_callV (ci := 12) (b := x0) (As := [vI x3]) (st := [vJ (x1 * (31 : Int64))]) (v := some (vI r6)) (M1 := M6) X (m_X14_lotOf l hq6) (cwV 1 X.2.2.1 gX14_digest_X14_lotOf rfl rfl rfl (by decide +kernel) ⟨Nat.le_of_ble_eq_true rfl, Nat.le_of_ble_eq_true rfl⟩) rfl rfl rfl hT1 (by decide) rfl (Nat.le_of_ble_eq_true rfl) dX14_digest_250 ⟨by show _ ≤ 140; omega, by show _ ≤ 1400; omega⟩ ?_
    have hN6 : N0 ≤ mN M6 := by omega
    refine g_wide (k' := mN M6 - N0) (n' := 10 * (mN M6 - N0)) (by omega) (by omega) ?_
    refine g_i2l X dX14_digest_253 ?_
    refine g_ladd X dX14_digest_254 ?_
    refine g_lstore_n (lv' := [(1, vJ ((x1 * (31 : Int64)) + (Int32.toInt64 r6))), (0, vR (some x0)), (3, vI x3)]) X dX14_digest_255 rfl (by decide) rfl ?_
    refine g_iinc (v := (1 : Int32)) (lv' := [(3, vI (x3 + (1 : Int32))), (1, vJ ((x1 * (31 : Int64)) + (Int32.toInt64 r6))), (0, vR (some x0))]) X dX14_digest_256 rfl (by decide) (by decide) rfl ?_
    refine g_goto (tgt := 232) X dX14_digest_259 (by decide) ?_
    cases hf
    refine g_sub (lvsub_of _ _ [2, 1, 0] rfl) ?_
    exact hK hN6
set_option maxHeartbeats 4000000 in
set_option maxRecDepth 100000 in
theorem tl_X14_digest_232 (X : gX p s m args meth c D cy B (gSt Z B H0) RX14 cX14_digest wsX14_digest 5) (hr : meth.sig.returnType = (some .long)) {N0 : Nat} {Q : State → Prop} : ∀ (M : gMem) (x0 : Nat) (x1 : Int64) (x3 : Int32) (z : Int64 × gMem), lp_X14_digest_232 N0 M x0 x1 x3 = some z → (fun (r : Int64 × gMem) => Q = gMQ below D cy B H0 args s 140 1400 (some (vJ r.1)) r.2) z → N0 ≤ mN M → gGo p l e rX14_digest s m args below meth c D cy B H0 5 (mN M - N0) (10 * (mN M - N0)) Q 232 [(0, vR (some x0)), (1, vJ x1), (3, vI x3)] [] M := by
  intro M x0 x1 x3 z hf hK hN0
  refine lp_ind (P := (fun (q : gMem × Int64 × Int32) (z : Int64 × gMem) => (fun (r : Int64 × gMem) => Q = gMQ below D cy B H0 args s 140 1400 (some (vJ r.1)) r.2) z → N0 ≤ mN q.1 → gGo p l e rX14_digest s m args below meth c D cy B H0 5 (mN q.1 - N0) (10 * (mN q.1 - N0)) Q 232 [(0, vR (some x0)), (1, vJ q.2.1), (3, vI q.2.2)] [] q.1)) (fun q z hq => ?_) _ _ hf hK hN0
  intro hK hN0
  obtain ⟨w, hw, hm⟩ := hq
  refine tb_X14_digest_232 X hr _ _ _ _ w hw ?_ hN0
  cases w with
  | inl a => exact hm hK
  | inr b => cases hm; exact hK
set_option maxHeartbeats 4000000 in
set_option maxRecDepth 100000 in
theorem tb_X14_digest_196 (X : gX p s m args meth c D cy B (gSt Z B H0) RX14 cX14_digest wsX14_digest 5) (hr : meth.sig.returnType = (some .long)) {N0 : Nat} {Q : State → Prop} : ∀ (M : gMem) (x0 : Nat) (x1 : Int64) (x3 : Int32) (x4 : Int32) (z : (gMem × Int64 × Int32) ⊕ ((gMem × Int64 × Int32) ⊕ (Int64 × gMem))), bb_X14_digest_196 N0 M x0 x1 x3 x4 = some z → (Sum.elim (fun (q : gMem × Int64 × Int32) => N0 ≤ mN q.1 → gGo p l e rX14_digest s m args below meth c D cy B H0 5 (mN q.1 - N0) (10 * (mN q.1 - N0)) Q 196 [(0, vR (some x0)), (1, vJ q.2.1), (3, vI x3), (4, vI q.2.2)] [] q.1) (Sum.elim (fun (q : gMem × Int64 × Int32) => N0 ≤ mN q.1 → gGo p l e rX14_digest s m args below meth c D cy B H0 5 (mN q.1 - N0) (10 * (mN q.1 - N0)) Q 182 [(0, vR (some x0)), (1, vJ q.2.1), (3, vI q.2.2)] [] q.1) (fun (r : Int64 × gMem) => Q = gMQ below D cy B H0 args s 140 1400 (some (vJ r.1)) r.2))) z → N0 ≤ mN M → gGo p l e rX14_digest s m args below meth c D cy B H0 5 (mN M - N0) (10 * (mN M - N0)) Q 196 [(0, vR (some x0)), (1, vJ x1), (3, vI x3), (4, vI x4)] [] M := by
  intro M x0 x1 x3 x4 z hf hK hN0
  unfold bb_X14_digest_196 at hf
  refine g_iload X dX14_digest_196 rfl ?_
  refine g_bipush (v := (6 : Int32)) X dX14_digest_198 (by decide) ?_
  refine g_icmp_gt (tgt := 224) X dX14_digest_200 (by decide) (fun hc => ?_) (fun hc => ?_)
  · have hf := ife_t hc hf
    refine g_iinc (v := (1 : Int32)) (lv' := [(3, vI (x3 + (1 : Int32))), (0, vR (some x0)), (1, vJ x1), (4, vI x4)]) X dX14_digest_224 rfl (by decide) (by decide) rfl ?_
    refine g_goto (tgt := 182) X dX14_digest_227 (by decide) ?_
    obtain ⟨w9, hw9, hz9⟩ := oI_e hf
    subst hz9
    have hf := hw9
    cases hf
    refine g_sub (lvsub_of _ _ [1, 2, 0] rfl) ?_
    exact hK hN0
  · have hf := ife_f hc hf
    refine g_lload_n X dX14_digest_203 rfl rfl ?_
    refine g_ldc2 (v := (31 : Int64)) X k_X14_digest_c375 dX14_digest_204 ?_
    refine g_lmul X dX14_digest_207 ?_
    refine g_aload_n X dX14_digest_208 rfl rfl ?_
    refine g_iload_n X dX14_digest_209 rfl rfl ?_
    refine g_iload X dX14_digest_210 rfl ?_
    obtain ⟨hT11, hf⟩ := ck_e hf
    obtain ⟨hg12, hf⟩ := ck_e hf
    obtain ⟨r10, M10, hq10, hf⟩ := bd_e hf
    obtain ⟨hg13, hf⟩ := ck_e hf
    refine g_callV (ci := 12) (b := x0) (As := [vI x3, vI x4]) (st := [vJ (x1 * (31 : Int64))]) (v := some (vI r10)) (M1 := M10) X (m_X14_pactTold l hq10) (cwV 2 X.2.2.1 gX14_digest_X14_pactTold rfl rfl rfl (by decide +kernel) ⟨Nat.le_of_ble_eq_true rfl, Nat.le_of_ble_eq_true rfl⟩) rfl rfl rfl hT11 (by decide) rfl (Nat.le_of_ble_eq_true rfl) dX14_digest_212 ⟨by show _ ≤ 140; omega, by show _ ≤ 1400; omega⟩ ?_
    have hN10 : N0 ≤ mN M10 := by omega
    refine g_wide (k' := mN M10 - N0) (n' := 10 * (mN M10 - N0)) (by omega) (by omega) ?_
    refine g_i2l X dX14_digest_215 ?_
    refine g_ladd X dX14_digest_216 ?_
    refine g_lstore_n (lv' := [(1, vJ ((x1 * (31 : Int64)) + (Int32.toInt64 r10))), (0, vR (some x0)), (3, vI x3), (4, vI x4)]) X dX14_digest_217 rfl (by decide) rfl ?_
    refine g_iinc (v := (1 : Int32)) (lv' := [(4, vI (x4 + (1 : Int32))), (1, vJ ((x1 * (31 : Int64)) + (Int32.toInt64 r10))), (0, vR (some x0)), (3, vI x3)]) X dX14_digest_218 rfl (by decide) (by decide) rfl ?_
    refine g_goto (tgt := 196) X dX14_digest_221 (by decide) ?_
    cases hf
    refine g_sub (lvsub_of _ _ [2, 1, 3, 0] rfl) ?_
    exact hK hN10
set_option maxHeartbeats 4000000 in
set_option maxRecDepth 100000 in
theorem tl_X14_digest_196 (X : gX p s m args meth c D cy B (gSt Z B H0) RX14 cX14_digest wsX14_digest 5) (hr : meth.sig.returnType = (some .long)) {N0 : Nat} {Q : State → Prop} : ∀ (M : gMem) (x0 : Nat) (x1 : Int64) (x3 : Int32) (x4 : Int32) (z : (gMem × Int64 × Int32) ⊕ (Int64 × gMem)), lp_X14_digest_196 N0 M x0 x1 x3 x4 = some z → (Sum.elim (fun (q : gMem × Int64 × Int32) => N0 ≤ mN q.1 → gGo p l e rX14_digest s m args below meth c D cy B H0 5 (mN q.1 - N0) (10 * (mN q.1 - N0)) Q 182 [(0, vR (some x0)), (1, vJ q.2.1), (3, vI q.2.2)] [] q.1) (fun (r : Int64 × gMem) => Q = gMQ below D cy B H0 args s 140 1400 (some (vJ r.1)) r.2)) z → N0 ≤ mN M → gGo p l e rX14_digest s m args below meth c D cy B H0 5 (mN M - N0) (10 * (mN M - N0)) Q 196 [(0, vR (some x0)), (1, vJ x1), (3, vI x3), (4, vI x4)] [] M := by
  intro M x0 x1 x3 x4 z hf hK hN0
  refine lp_ind (P := (fun (q : gMem × Int64 × Int32) (z : (gMem × Int64 × Int32) ⊕ (Int64 × gMem)) => (Sum.elim (fun (q : gMem × Int64 × Int32) => N0 ≤ mN q.1 → gGo p l e rX14_digest s m args below meth c D cy B H0 5 (mN q.1 - N0) (10 * (mN q.1 - N0)) Q 182 [(0, vR (some x0)), (1, vJ q.2.1), (3, vI q.2.2)] [] q.1) (fun (r : Int64 × gMem) => Q = gMQ below D cy B H0 args s 140 1400 (some (vJ r.1)) r.2)) z → N0 ≤ mN q.1 → gGo p l e rX14_digest s m args below meth c D cy B H0 5 (mN q.1 - N0) (10 * (mN q.1 - N0)) Q 196 [(0, vR (some x0)), (1, vJ q.2.1), (3, vI x3), (4, vI q.2.2)] [] q.1)) (fun q z hq => ?_) _ _ hf hK hN0
  intro hK hN0
  obtain ⟨w, hw, hm⟩ := hq
  refine tb_X14_digest_196 X hr _ _ _ _ _ w hw ?_ hN0
  cases w with
  | inl a => exact hm hK
  | inr b => cases hm; exact hK
set_option maxHeartbeats 4000000 in
set_option maxRecDepth 100000 in
theorem tb_X14_digest_182 (X : gX p s m args meth c D cy B (gSt Z B H0) RX14 cX14_digest wsX14_digest 5) (hr : meth.sig.returnType = (some .long)) {N0 : Nat} {Q : State → Prop} : ∀ (M : gMem) (x0 : Nat) (x1 : Int64) (x3 : Int32) (z : (gMem × Int64 × Int32) ⊕ (Int64 × gMem)), bb_X14_digest_182 N0 M x0 x1 x3 = some z → (Sum.elim (fun (q : gMem × Int64 × Int32) => N0 ≤ mN q.1 → gGo p l e rX14_digest s m args below meth c D cy B H0 5 (mN q.1 - N0) (10 * (mN q.1 - N0)) Q 182 [(0, vR (some x0)), (1, vJ q.2.1), (3, vI q.2.2)] [] q.1) (fun (r : Int64 × gMem) => Q = gMQ below D cy B H0 args s 140 1400 (some (vJ r.1)) r.2)) z → N0 ≤ mN M → gGo p l e rX14_digest s m args below meth c D cy B H0 5 (mN M - N0) (10 * (mN M - N0)) Q 182 [(0, vR (some x0)), (1, vJ x1), (3, vI x3)] [] M := by
  intro M x0 x1 x3 z hf hK hN0
  unfold bb_X14_digest_182 at hf
  refine g_iload_n X dX14_digest_182 rfl rfl ?_
  refine g_aload_n X dX14_digest_183 rfl rfl ?_
  obtain ⟨hT14, hf⟩ := ck_e hf
  refine g_get (ci := 12) (v := vR (mR M x0 11)) 11 X cdX14 i_X14_digest_X14 (by decide) k_X14_digest_f35 rfl dX14_digest_184 rfl hT14 rfl ?_
  obtain ⟨a15, ha15, hf⟩ := dr_e hf
  obtain ⟨hT16, hf⟩ := ck_e hf
  refine g_getN (ci := 11) (w := vI (mI M a15 11)) 11 X cdX13 i_X14_digest_X13 (by decide) (gNw X _ kn_X14_222) rfl dX14_digest_187 ha15 hT16 rfl ?_
  refine g_icmp_ge (tgt := 230) X dX14_digest_190 (by decide) (fun hc => ?_) (fun hc => ?_)
  · have hf := ife_t hc hf
    refine g_iconst (v := (0 : Int32)) X dX14_digest_230 (by decide) ?_
    refine g_istore_n (lv' := [(3, vI (0 : Int32)), (0, vR (some x0)), (1, vJ x1)]) X dX14_digest_231 rfl (by decide) rfl ?_
    obtain ⟨w17, hw17, hz17⟩ := oI_e hf
    subst hz17
    have hf := hw17
    refine g_sub (lvsub_of _ _ [1, 2, 0] rfl) ?_
    exact tl_X14_digest_232 X hr _ _ _ _ _ hf hK hN0
  · have hf := ife_f hc hf
    refine g_iconst (v := (0 : Int32)) X dX14_digest_193 (by decide) ?_
    refine g_istore (lv' := [(4, vI (0 : Int32)), (0, vR (some x0)), (1, vJ x1), (3, vI x3)]) X dX14_digest_194 (by decide) rfl ?_
    refine g_sub (lvsub_of _ _ [1, 2, 3, 0] rfl) ?_
    exact tl_X14_digest_196 X hr _ _ _ _ _ _ hf hK hN0
set_option maxHeartbeats 4000000 in
set_option maxRecDepth 100000 in
theorem tl_X14_digest_182 (X : gX p s m args meth c D cy B (gSt Z B H0) RX14 cX14_digest wsX14_digest 5) (hr : meth.sig.returnType = (some .long)) {N0 : Nat} {Q : State → Prop} : ∀ (M : gMem) (x0 : Nat) (x1 : Int64) (x3 : Int32) (z : Int64 × gMem), lp_X14_digest_182 N0 M x0 x1 x3 = some z → (fun (r : Int64 × gMem) => Q = gMQ below D cy B H0 args s 140 1400 (some (vJ r.1)) r.2) z → N0 ≤ mN M → gGo p l e rX14_digest s m args below meth c D cy B H0 5 (mN M - N0) (10 * (mN M - N0)) Q 182 [(0, vR (some x0)), (1, vJ x1), (3, vI x3)] [] M := by
  intro M x0 x1 x3 z hf hK hN0
  refine lp_ind (P := (fun (q : gMem × Int64 × Int32) (z : Int64 × gMem) => (fun (r : Int64 × gMem) => Q = gMQ below D cy B H0 args s 140 1400 (some (vJ r.1)) r.2) z → N0 ≤ mN q.1 → gGo p l e rX14_digest s m args below meth c D cy B H0 5 (mN q.1 - N0) (10 * (mN q.1 - N0)) Q 182 [(0, vR (some x0)), (1, vJ q.2.1), (3, vI q.2.2)] [] q.1)) (fun q z hq => ?_) _ _ hf hK hN0
  intro hK hN0
  obtain ⟨w, hw, hm⟩ := hq
  refine tb_X14_digest_182 X hr _ _ _ _ w hw ?_ hN0
  cases w with
  | inl a => exact hm hK
  | inr b => cases hm; exact hK
set_option maxHeartbeats 4000000 in
set_option maxRecDepth 100000 in
theorem tb_X14_digest_146 (X : gX p s m args meth c D cy B (gSt Z B H0) RX14 cX14_digest wsX14_digest 5) (hr : meth.sig.returnType = (some .long)) {N0 : Nat} {Q : State → Prop} : ∀ (M : gMem) (x0 : Nat) (x1 : Int64) (x3 : Int32) (x4 : Int32) (z : (gMem × Int64 × Int32) ⊕ ((gMem × Int64 × Int32) ⊕ (Int64 × gMem))), bb_X14_digest_146 N0 M x0 x1 x3 x4 = some z → (Sum.elim (fun (q : gMem × Int64 × Int32) => N0 ≤ mN q.1 → gGo p l e rX14_digest s m args below meth c D cy B H0 5 (mN q.1 - N0) (10 * (mN q.1 - N0)) Q 146 [(0, vR (some x0)), (1, vJ q.2.1), (3, vI x3), (4, vI q.2.2)] [] q.1) (Sum.elim (fun (q : gMem × Int64 × Int32) => N0 ≤ mN q.1 → gGo p l e rX14_digest s m args below meth c D cy B H0 5 (mN q.1 - N0) (10 * (mN q.1 - N0)) Q 132 [(0, vR (some x0)), (1, vJ q.2.1), (3, vI q.2.2)] [] q.1) (fun (r : Int64 × gMem) => Q = gMQ below D cy B H0 args s 140 1400 (some (vJ r.1)) r.2))) z → N0 ≤ mN M → gGo p l e rX14_digest s m args below meth c D cy B H0 5 (mN M - N0) (10 * (mN M - N0)) Q 146 [(0, vR (some x0)), (1, vJ x1), (3, vI x3), (4, vI x4)] [] M := by
  intro M x0 x1 x3 x4 z hf hK hN0
  unfold bb_X14_digest_146 at hf
  refine g_iload X dX14_digest_146 rfl ?_
  refine g_bipush (v := (9 : Int32)) X dX14_digest_148 (by decide) ?_
  refine g_icmp_gt (tgt := 174) X dX14_digest_150 (by decide) (fun hc => ?_) (fun hc => ?_)
  · have hf := ife_t hc hf
    refine g_iinc (v := (1 : Int32)) (lv' := [(3, vI (x3 + (1 : Int32))), (0, vR (some x0)), (1, vJ x1), (4, vI x4)]) X dX14_digest_174 rfl (by decide) (by decide) rfl ?_
    refine g_goto (tgt := 132) X dX14_digest_177 (by decide) ?_
    obtain ⟨w18, hw18, hz18⟩ := oI_e hf
    subst hz18
    have hf := hw18
    cases hf
    refine g_sub (lvsub_of _ _ [1, 2, 0] rfl) ?_
    exact hK hN0
  · have hf := ife_f hc hf
    refine g_lload_n X dX14_digest_153 rfl rfl ?_
    refine g_ldc2 (v := (31 : Int64)) X k_X14_digest_c375 dX14_digest_154 ?_
    refine g_lmul X dX14_digest_157 ?_
    refine g_aload_n X dX14_digest_158 rfl rfl ?_
    refine g_iload_n X dX14_digest_159 rfl rfl ?_
    refine g_iload X dX14_digest_160 rfl ?_
    obtain ⟨hT20, hf⟩ := ck_e hf
    obtain ⟨hg21, hf⟩ := ck_e hf
    obtain ⟨r19, M19, hq19, hf⟩ := bd_e hf
    obtain ⟨hg22, hf⟩ := ck_e hf
    refine g_callV (ci := 12) (b := x0) (As := [vI x3, vI x4]) (st := [vJ (x1 * (31 : Int64))]) (v := some (vI r19)) (M1 := M19) X (m_X14_fisherTold l hq19) (cwV 2 X.2.2.1 gX14_digest_X14_fisherTold rfl rfl rfl (by decide +kernel) ⟨Nat.le_of_ble_eq_true rfl, Nat.le_of_ble_eq_true rfl⟩) rfl rfl rfl hT20 (by decide) rfl (Nat.le_of_ble_eq_true rfl) dX14_digest_162 ⟨by show _ ≤ 140; omega, by show _ ≤ 1400; omega⟩ ?_
    have hN19 : N0 ≤ mN M19 := by omega
    refine g_wide (k' := mN M19 - N0) (n' := 10 * (mN M19 - N0)) (by omega) (by omega) ?_
    refine g_i2l X dX14_digest_165 ?_
    refine g_ladd X dX14_digest_166 ?_
    refine g_lstore_n (lv' := [(1, vJ ((x1 * (31 : Int64)) + (Int32.toInt64 r19))), (0, vR (some x0)), (3, vI x3), (4, vI x4)]) X dX14_digest_167 rfl (by decide) rfl ?_
    refine g_iinc (v := (1 : Int32)) (lv' := [(4, vI (x4 + (1 : Int32))), (1, vJ ((x1 * (31 : Int64)) + (Int32.toInt64 r19))), (0, vR (some x0)), (3, vI x3)]) X dX14_digest_168 rfl (by decide) (by decide) rfl ?_
    refine g_goto (tgt := 146) X dX14_digest_171 (by decide) ?_
    cases hf
    refine g_sub (lvsub_of _ _ [2, 1, 3, 0] rfl) ?_
    exact hK hN19
set_option maxHeartbeats 4000000 in
set_option maxRecDepth 100000 in
theorem tl_X14_digest_146 (X : gX p s m args meth c D cy B (gSt Z B H0) RX14 cX14_digest wsX14_digest 5) (hr : meth.sig.returnType = (some .long)) {N0 : Nat} {Q : State → Prop} : ∀ (M : gMem) (x0 : Nat) (x1 : Int64) (x3 : Int32) (x4 : Int32) (z : (gMem × Int64 × Int32) ⊕ (Int64 × gMem)), lp_X14_digest_146 N0 M x0 x1 x3 x4 = some z → (Sum.elim (fun (q : gMem × Int64 × Int32) => N0 ≤ mN q.1 → gGo p l e rX14_digest s m args below meth c D cy B H0 5 (mN q.1 - N0) (10 * (mN q.1 - N0)) Q 132 [(0, vR (some x0)), (1, vJ q.2.1), (3, vI q.2.2)] [] q.1) (fun (r : Int64 × gMem) => Q = gMQ below D cy B H0 args s 140 1400 (some (vJ r.1)) r.2)) z → N0 ≤ mN M → gGo p l e rX14_digest s m args below meth c D cy B H0 5 (mN M - N0) (10 * (mN M - N0)) Q 146 [(0, vR (some x0)), (1, vJ x1), (3, vI x3), (4, vI x4)] [] M := by
  intro M x0 x1 x3 x4 z hf hK hN0
  refine lp_ind (P := (fun (q : gMem × Int64 × Int32) (z : (gMem × Int64 × Int32) ⊕ (Int64 × gMem)) => (Sum.elim (fun (q : gMem × Int64 × Int32) => N0 ≤ mN q.1 → gGo p l e rX14_digest s m args below meth c D cy B H0 5 (mN q.1 - N0) (10 * (mN q.1 - N0)) Q 132 [(0, vR (some x0)), (1, vJ q.2.1), (3, vI q.2.2)] [] q.1) (fun (r : Int64 × gMem) => Q = gMQ below D cy B H0 args s 140 1400 (some (vJ r.1)) r.2)) z → N0 ≤ mN q.1 → gGo p l e rX14_digest s m args below meth c D cy B H0 5 (mN q.1 - N0) (10 * (mN q.1 - N0)) Q 146 [(0, vR (some x0)), (1, vJ q.2.1), (3, vI x3), (4, vI q.2.2)] [] q.1)) (fun q z hq => ?_) _ _ hf hK hN0
  intro hK hN0
  obtain ⟨w, hw, hm⟩ := hq
  refine tb_X14_digest_146 X hr _ _ _ _ _ w hw ?_ hN0
  cases w with
  | inl a => exact hm hK
  | inr b => cases hm; exact hK
set_option maxHeartbeats 4000000 in
set_option maxRecDepth 100000 in
theorem tb_X14_digest_132 (X : gX p s m args meth c D cy B (gSt Z B H0) RX14 cX14_digest wsX14_digest 5) (hr : meth.sig.returnType = (some .long)) {N0 : Nat} {Q : State → Prop} : ∀ (M : gMem) (x0 : Nat) (x1 : Int64) (x3 : Int32) (z : (gMem × Int64 × Int32) ⊕ (Int64 × gMem)), bb_X14_digest_132 N0 M x0 x1 x3 = some z → (Sum.elim (fun (q : gMem × Int64 × Int32) => N0 ≤ mN q.1 → gGo p l e rX14_digest s m args below meth c D cy B H0 5 (mN q.1 - N0) (10 * (mN q.1 - N0)) Q 132 [(0, vR (some x0)), (1, vJ q.2.1), (3, vI q.2.2)] [] q.1) (fun (r : Int64 × gMem) => Q = gMQ below D cy B H0 args s 140 1400 (some (vJ r.1)) r.2)) z → N0 ≤ mN M → gGo p l e rX14_digest s m args below meth c D cy B H0 5 (mN M - N0) (10 * (mN M - N0)) Q 132 [(0, vR (some x0)), (1, vJ x1), (3, vI x3)] [] M := by
  intro M x0 x1 x3 z hf hK hN0
  unfold bb_X14_digest_132 at hf
  refine g_iload_n X dX14_digest_132 rfl rfl ?_
  refine g_aload_n X dX14_digest_133 rfl rfl ?_
  obtain ⟨hT23, hf⟩ := ck_e hf
  refine g_get (ci := 12) (v := vR (mR M x0 11)) 11 X cdX14 i_X14_digest_X14 (by decide) k_X14_digest_f35 rfl dX14_digest_134 rfl hT23 rfl ?_
  obtain ⟨a24, ha24, hf⟩ := dr_e hf
  obtain ⟨hT25, hf⟩ := ck_e hf
  refine g_getN (ci := 11) (w := vI (mI M a24 4)) 4 X cdX13 i_X14_digest_X13 (by decide) (gNw X _ kn_X14_67) rfl dX14_digest_137 ha24 hT25 rfl ?_
  refine g_icmp_ge (tgt := 180) X dX14_digest_140 (by decide) (fun hc => ?_) (fun hc => ?_)
  · have hf := ife_t hc hf
    refine g_iconst (v := (0 : Int32)) X dX14_digest_180 (by decide) ?_
    refine g_istore_n (lv' := [(3, vI (0 : Int32)), (0, vR (some x0)), (1, vJ x1)]) X dX14_digest_181 rfl (by decide) rfl ?_
    obtain ⟨w26, hw26, hz26⟩ := oI_e hf
    subst hz26
    have hf := hw26
    refine g_sub (lvsub_of _ _ [1, 2, 0] rfl) ?_
    exact tl_X14_digest_182 X hr _ _ _ _ _ hf hK hN0
  · have hf := ife_f hc hf
    refine g_iconst (v := (0 : Int32)) X dX14_digest_143 (by decide) ?_
    refine g_istore (lv' := [(4, vI (0 : Int32)), (0, vR (some x0)), (1, vJ x1), (3, vI x3)]) X dX14_digest_144 (by decide) rfl ?_
    refine g_sub (lvsub_of _ _ [1, 2, 3, 0] rfl) ?_
    exact tl_X14_digest_146 X hr _ _ _ _ _ _ hf hK hN0
set_option maxHeartbeats 4000000 in
set_option maxRecDepth 100000 in
theorem tl_X14_digest_132 (X : gX p s m args meth c D cy B (gSt Z B H0) RX14 cX14_digest wsX14_digest 5) (hr : meth.sig.returnType = (some .long)) {N0 : Nat} {Q : State → Prop} : ∀ (M : gMem) (x0 : Nat) (x1 : Int64) (x3 : Int32) (z : Int64 × gMem), lp_X14_digest_132 N0 M x0 x1 x3 = some z → (fun (r : Int64 × gMem) => Q = gMQ below D cy B H0 args s 140 1400 (some (vJ r.1)) r.2) z → N0 ≤ mN M → gGo p l e rX14_digest s m args below meth c D cy B H0 5 (mN M - N0) (10 * (mN M - N0)) Q 132 [(0, vR (some x0)), (1, vJ x1), (3, vI x3)] [] M := by
  intro M x0 x1 x3 z hf hK hN0
  refine lp_ind (P := (fun (q : gMem × Int64 × Int32) (z : Int64 × gMem) => (fun (r : Int64 × gMem) => Q = gMQ below D cy B H0 args s 140 1400 (some (vJ r.1)) r.2) z → N0 ≤ mN q.1 → gGo p l e rX14_digest s m args below meth c D cy B H0 5 (mN q.1 - N0) (10 * (mN q.1 - N0)) Q 132 [(0, vR (some x0)), (1, vJ q.2.1), (3, vI q.2.2)] [] q.1)) (fun q z hq => ?_) _ _ hf hK hN0
  intro hK hN0
  obtain ⟨w, hw, hm⟩ := hq
  refine tb_X14_digest_132 X hr _ _ _ _ w hw ?_ hN0
  cases w with
  | inl a => exact hm hK
  | inr b => cases hm; exact hK
set_option maxHeartbeats 4000000 in
set_option maxRecDepth 100000 in
theorem tb_X14_digest_83 (X : gX p s m args meth c D cy B (gSt Z B H0) RX14 cX14_digest wsX14_digest 5) (hr : meth.sig.returnType = (some .long)) {N0 : Nat} {Q : State → Prop} : ∀ (M : gMem) (x0 : Nat) (x1 : Int64) (x3 : Int32) (x4 : Int32) (z : (gMem × Int64 × Int32) ⊕ ((gMem × Int64 × Int32) ⊕ (Int64 × gMem))), bb_X14_digest_83 N0 M x0 x1 x3 x4 = some z → (Sum.elim (fun (q : gMem × Int64 × Int32) => N0 ≤ mN q.1 → gGo p l e rX14_digest s m args below meth c D cy B H0 5 (mN q.1 - N0) (10 * (mN q.1 - N0)) Q 83 [(0, vR (some x0)), (1, vJ q.2.1), (3, vI x3), (4, vI q.2.2)] [] q.1) (Sum.elim (fun (q : gMem × Int64 × Int32) => N0 ≤ mN q.1 → gGo p l e rX14_digest s m args below meth c D cy B H0 5 (mN q.1 - N0) (10 * (mN q.1 - N0)) Q 38 [(0, vR (some x0)), (1, vJ q.2.1), (3, vI q.2.2)] [] q.1) (fun (r : Int64 × gMem) => Q = gMQ below D cy B H0 args s 140 1400 (some (vJ r.1)) r.2))) z → N0 ≤ mN M → gGo p l e rX14_digest s m args below meth c D cy B H0 5 (mN M - N0) (10 * (mN M - N0)) Q 83 [(0, vR (some x0)), (1, vJ x1), (3, vI x3), (4, vI x4)] [] M := by
  intro M x0 x1 x3 x4 z hf hK hN0
  unfold bb_X14_digest_83 at hf
  refine g_iload X dX14_digest_83 rfl ?_
  refine g_aload_n X dX14_digest_85 rfl rfl ?_
  obtain ⟨hT27, hf⟩ := ck_e hf
  refine g_get (ci := 12) (v := vR (mR M x0 11)) 11 X cdX14 i_X14_digest_X14 (by decide) k_X14_digest_f35 rfl dX14_digest_86 rfl hT27 rfl ?_
  obtain ⟨a28, ha28, hf⟩ := dr_e hf
  obtain ⟨hT29, hf⟩ := ck_e hf
  refine g_getN (ci := 11) (w := vI (mI M a28 4)) 4 X cdX13 i_X14_digest_X13 (by decide) (gNw X _ kn_X14_67) rfl dX14_digest_89 ha28 hT29 rfl ?_
  refine g_icmp_ge (tgt := 124) X dX14_digest_92 (by decide) (fun hc => ?_) (fun hc => ?_)
  · have hf := ife_t hc hf
    refine g_iinc (v := (1 : Int32)) (lv' := [(3, vI (x3 + (1 : Int32))), (0, vR (some x0)), (1, vJ x1), (4, vI x4)]) X dX14_digest_124 rfl (by decide) (by decide) rfl ?_
    refine g_goto (tgt := 38) X dX14_digest_127 (by decide) ?_
    obtain ⟨w30, hw30, hz30⟩ := oI_e hf
    subst hz30
    have hf := hw30
    cases hf
    refine g_sub (lvsub_of _ _ [1, 2, 0] rfl) ?_
    exact hK hN0
  · have hf := ife_f hc hf
    refine g_lload_n X dX14_digest_95 rfl rfl ?_
    refine g_ldc2 (v := (31 : Int64)) X k_X14_digest_c375 dX14_digest_96 ?_
    refine g_lmul X dX14_digest_99 ?_
    refine g_aload_n X dX14_digest_100 rfl rfl ?_
    refine g_get (ci := 12) (v := vR (mR M x0 13)) 13 X cdX14 i_X14_digest_X14 (by decide) k_X14_digest_f47 rfl dX14_digest_101 rfl hT27 rfl ?_
    obtain ⟨a31, ha31, hf⟩ := dr_e hf
    obtain ⟨hT32, hf⟩ := ck_e hf
    refine g_getN (ci := 10) (w := vR (mR M a31 4)) 4 X cdX12 i_X14_digest_X12 (by decide) (gNw X _ kn_X14_299) rfl dX14_digest_104 ha31 hT32 rfl ?_
    refine g_bipush (v := (8 : Int32)) X dX14_digest_107 (by decide) ?_
    refine g_iload_n X dX14_digest_109 rfl rfl ?_
    refine g_imul X dX14_digest_110 ?_
    refine g_iload X dX14_digest_111 rfl ?_
    refine g_iadd X dX14_digest_113 ?_
    obtain ⟨a33, ha33, hf⟩ := dr_e hf
    obtain ⟨hT34, hf⟩ := ck_e hf
    obtain ⟨hg35, hf⟩ := ck_e hf
    refine g_iald X dX14_digest_114 ha33 hT34 hg35 ?_
    refine g_i2l X dX14_digest_115 ?_
    refine g_ladd X dX14_digest_116 ?_
    refine g_lstore_n (lv' := [(1, vJ ((x1 * (31 : Int64)) + (Int32.toInt64 (mI M a33 ((((8 : Int32) * x3) + x4)).toNatClampNeg)))), (0, vR (some x0)), (3, vI x3), (4, vI x4)]) X dX14_digest_117 rfl (by decide) rfl ?_
    refine g_iinc (v := (1 : Int32)) (lv' := [(4, vI (x4 + (1 : Int32))), (1, vJ ((x1 * (31 : Int64)) + (Int32.toInt64 (mI M a33 ((((8 : Int32) * x3) + x4)).toNatClampNeg)))), (0, vR (some x0)), (3, vI x3)]) X dX14_digest_118 rfl (by decide) (by decide) rfl ?_
    refine g_goto (tgt := 83) X dX14_digest_121 (by decide) ?_
    cases hf
    refine g_sub (lvsub_of _ _ [2, 1, 3, 0] rfl) ?_
    exact hK hN0
set_option maxHeartbeats 4000000 in
set_option maxRecDepth 100000 in
theorem tl_X14_digest_83 (X : gX p s m args meth c D cy B (gSt Z B H0) RX14 cX14_digest wsX14_digest 5) (hr : meth.sig.returnType = (some .long)) {N0 : Nat} {Q : State → Prop} : ∀ (M : gMem) (x0 : Nat) (x1 : Int64) (x3 : Int32) (x4 : Int32) (z : (gMem × Int64 × Int32) ⊕ (Int64 × gMem)), lp_X14_digest_83 N0 M x0 x1 x3 x4 = some z → (Sum.elim (fun (q : gMem × Int64 × Int32) => N0 ≤ mN q.1 → gGo p l e rX14_digest s m args below meth c D cy B H0 5 (mN q.1 - N0) (10 * (mN q.1 - N0)) Q 38 [(0, vR (some x0)), (1, vJ q.2.1), (3, vI q.2.2)] [] q.1) (fun (r : Int64 × gMem) => Q = gMQ below D cy B H0 args s 140 1400 (some (vJ r.1)) r.2)) z → N0 ≤ mN M → gGo p l e rX14_digest s m args below meth c D cy B H0 5 (mN M - N0) (10 * (mN M - N0)) Q 83 [(0, vR (some x0)), (1, vJ x1), (3, vI x3), (4, vI x4)] [] M := by
  intro M x0 x1 x3 x4 z hf hK hN0
  refine lp_ind (P := (fun (q : gMem × Int64 × Int32) (z : (gMem × Int64 × Int32) ⊕ (Int64 × gMem)) => (Sum.elim (fun (q : gMem × Int64 × Int32) => N0 ≤ mN q.1 → gGo p l e rX14_digest s m args below meth c D cy B H0 5 (mN q.1 - N0) (10 * (mN q.1 - N0)) Q 38 [(0, vR (some x0)), (1, vJ q.2.1), (3, vI q.2.2)] [] q.1) (fun (r : Int64 × gMem) => Q = gMQ below D cy B H0 args s 140 1400 (some (vJ r.1)) r.2)) z → N0 ≤ mN q.1 → gGo p l e rX14_digest s m args below meth c D cy B H0 5 (mN q.1 - N0) (10 * (mN q.1 - N0)) Q 83 [(0, vR (some x0)), (1, vJ q.2.1), (3, vI x3), (4, vI q.2.2)] [] q.1)) (fun q z hq => ?_) _ _ hf hK hN0
  intro hK hN0
  obtain ⟨w, hw, hm⟩ := hq
  refine tb_X14_digest_83 X hr _ _ _ _ _ w hw ?_ hN0
  cases w with
  | inl a => exact hm hK
  | inr b => cases hm; exact hK
set_option maxHeartbeats 4000000 in
set_option maxRecDepth 100000 in
theorem tb_X14_digest_52 (X : gX p s m args meth c D cy B (gSt Z B H0) RX14 cX14_digest wsX14_digest 5) (hr : meth.sig.returnType = (some .long)) {N0 : Nat} {Q : State → Prop} : ∀ (M : gMem) (x0 : Nat) (x1 : Int64) (x3 : Int32) (x4 : Int32) (z : (gMem × Int64 × Int32) ⊕ ((gMem × Int64 × Int32) ⊕ (Int64 × gMem))), bb_X14_digest_52 N0 M x0 x1 x3 x4 = some z → (Sum.elim (fun (q : gMem × Int64 × Int32) => N0 ≤ mN q.1 → gGo p l e rX14_digest s m args below meth c D cy B H0 5 (mN q.1 - N0) (10 * (mN q.1 - N0)) Q 52 [(0, vR (some x0)), (1, vJ q.2.1), (3, vI x3), (4, vI q.2.2)] [] q.1) (Sum.elim (fun (q : gMem × Int64 × Int32) => N0 ≤ mN q.1 → gGo p l e rX14_digest s m args below meth c D cy B H0 5 (mN q.1 - N0) (10 * (mN q.1 - N0)) Q 38 [(0, vR (some x0)), (1, vJ q.2.1), (3, vI q.2.2)] [] q.1) (fun (r : Int64 × gMem) => Q = gMQ below D cy B H0 args s 140 1400 (some (vJ r.1)) r.2))) z → N0 ≤ mN M → gGo p l e rX14_digest s m args below meth c D cy B H0 5 (mN M - N0) (10 * (mN M - N0)) Q 52 [(0, vR (some x0)), (1, vJ x1), (3, vI x3), (4, vI x4)] [] M := by
  intro M x0 x1 x3 x4 z hf hK hN0
  unfold bb_X14_digest_52 at hf
  refine g_iload X dX14_digest_52 rfl ?_
  refine g_bipush (v := (8 : Int32)) X dX14_digest_54 (by decide) ?_
  refine g_icmp_gt (tgt := 80) X dX14_digest_56 (by decide) (fun hc => ?_) (fun hc => ?_)
  · have hf := ife_t hc hf
    refine g_iconst (v := (0 : Int32)) X dX14_digest_80 (by decide) ?_
    refine g_istore (lv' := [(4, vI (0 : Int32)), (0, vR (some x0)), (1, vJ x1), (3, vI x3)]) X dX14_digest_81 (by decide) rfl ?_
    obtain ⟨w36, hw36, hz36⟩ := oI_e hf
    subst hz36
    have hf := hw36
    refine g_sub (lvsub_of _ _ [1, 2, 3, 0] rfl) ?_
    exact tl_X14_digest_83 X hr _ _ _ _ _ _ hf hK hN0
  · have hf := ife_f hc hf
    refine g_lload_n X dX14_digest_59 rfl rfl ?_
    refine g_ldc2 (v := (31 : Int64)) X k_X14_digest_c375 dX14_digest_60 ?_
    refine g_lmul X dX14_digest_63 ?_
    refine g_aload_n X dX14_digest_64 rfl rfl ?_
    refine g_iload_n X dX14_digest_65 rfl rfl ?_
    refine g_iload X dX14_digest_66 rfl ?_
    obtain ⟨hT38, hf⟩ := ck_e hf
    obtain ⟨hg39, hf⟩ := ck_e hf
    obtain ⟨r37, M37, hq37, hf⟩ := bd_e hf
    obtain ⟨hg40, hf⟩ := ck_e hf
    refine g_callV (ci := 12) (b := x0) (As := [vI x3, vI x4]) (st := [vJ (x1 * (31 : Int64))]) (v := some (vI r37)) (M1 := M37) X (m_X14_groundTold l hq37) (cwV 2 X.2.2.1 gX14_digest_X14_groundTold rfl rfl rfl (by decide +kernel) ⟨Nat.le_of_ble_eq_true rfl, Nat.le_of_ble_eq_true rfl⟩) rfl rfl rfl hT38 (by decide) rfl (Nat.le_of_ble_eq_true rfl) dX14_digest_68 ⟨by show _ ≤ 140; omega, by show _ ≤ 1400; omega⟩ ?_
    have hN37 : N0 ≤ mN M37 := by omega
    refine g_wide (k' := mN M37 - N0) (n' := 10 * (mN M37 - N0)) (by omega) (by omega) ?_
    refine g_i2l X dX14_digest_71 ?_
    refine g_ladd X dX14_digest_72 ?_
    refine g_lstore_n (lv' := [(1, vJ ((x1 * (31 : Int64)) + (Int32.toInt64 r37))), (0, vR (some x0)), (3, vI x3), (4, vI x4)]) X dX14_digest_73 rfl (by decide) rfl ?_
    refine g_iinc (v := (1 : Int32)) (lv' := [(4, vI (x4 + (1 : Int32))), (1, vJ ((x1 * (31 : Int64)) + (Int32.toInt64 r37))), (0, vR (some x0)), (3, vI x3)]) X dX14_digest_74 rfl (by decide) (by decide) rfl ?_
    refine g_goto (tgt := 52) X dX14_digest_77 (by decide) ?_
    cases hf
    refine g_sub (lvsub_of _ _ [2, 1, 3, 0] rfl) ?_
    exact hK hN37
set_option maxHeartbeats 4000000 in
set_option maxRecDepth 100000 in
theorem tl_X14_digest_52 (X : gX p s m args meth c D cy B (gSt Z B H0) RX14 cX14_digest wsX14_digest 5) (hr : meth.sig.returnType = (some .long)) {N0 : Nat} {Q : State → Prop} : ∀ (M : gMem) (x0 : Nat) (x1 : Int64) (x3 : Int32) (x4 : Int32) (z : (gMem × Int64 × Int32) ⊕ (Int64 × gMem)), lp_X14_digest_52 N0 M x0 x1 x3 x4 = some z → (Sum.elim (fun (q : gMem × Int64 × Int32) => N0 ≤ mN q.1 → gGo p l e rX14_digest s m args below meth c D cy B H0 5 (mN q.1 - N0) (10 * (mN q.1 - N0)) Q 38 [(0, vR (some x0)), (1, vJ q.2.1), (3, vI q.2.2)] [] q.1) (fun (r : Int64 × gMem) => Q = gMQ below D cy B H0 args s 140 1400 (some (vJ r.1)) r.2)) z → N0 ≤ mN M → gGo p l e rX14_digest s m args below meth c D cy B H0 5 (mN M - N0) (10 * (mN M - N0)) Q 52 [(0, vR (some x0)), (1, vJ x1), (3, vI x3), (4, vI x4)] [] M := by
  intro M x0 x1 x3 x4 z hf hK hN0
  refine lp_ind (P := (fun (q : gMem × Int64 × Int32) (z : (gMem × Int64 × Int32) ⊕ (Int64 × gMem)) => (Sum.elim (fun (q : gMem × Int64 × Int32) => N0 ≤ mN q.1 → gGo p l e rX14_digest s m args below meth c D cy B H0 5 (mN q.1 - N0) (10 * (mN q.1 - N0)) Q 38 [(0, vR (some x0)), (1, vJ q.2.1), (3, vI q.2.2)] [] q.1) (fun (r : Int64 × gMem) => Q = gMQ below D cy B H0 args s 140 1400 (some (vJ r.1)) r.2)) z → N0 ≤ mN q.1 → gGo p l e rX14_digest s m args below meth c D cy B H0 5 (mN q.1 - N0) (10 * (mN q.1 - N0)) Q 52 [(0, vR (some x0)), (1, vJ q.2.1), (3, vI x3), (4, vI q.2.2)] [] q.1)) (fun q z hq => ?_) _ _ hf hK hN0
  intro hK hN0
  obtain ⟨w, hw, hm⟩ := hq
  refine tb_X14_digest_52 X hr _ _ _ _ _ w hw ?_ hN0
  cases w with
  | inl a => exact hm hK
  | inr b => cases hm; exact hK
set_option maxHeartbeats 4000000 in
set_option maxRecDepth 100000 in
theorem tb_X14_digest_38 (X : gX p s m args meth c D cy B (gSt Z B H0) RX14 cX14_digest wsX14_digest 5) (hr : meth.sig.returnType = (some .long)) {N0 : Nat} {Q : State → Prop} : ∀ (M : gMem) (x0 : Nat) (x1 : Int64) (x3 : Int32) (z : (gMem × Int64 × Int32) ⊕ (Int64 × gMem)), bb_X14_digest_38 N0 M x0 x1 x3 = some z → (Sum.elim (fun (q : gMem × Int64 × Int32) => N0 ≤ mN q.1 → gGo p l e rX14_digest s m args below meth c D cy B H0 5 (mN q.1 - N0) (10 * (mN q.1 - N0)) Q 38 [(0, vR (some x0)), (1, vJ q.2.1), (3, vI q.2.2)] [] q.1) (fun (r : Int64 × gMem) => Q = gMQ below D cy B H0 args s 140 1400 (some (vJ r.1)) r.2)) z → N0 ≤ mN M → gGo p l e rX14_digest s m args below meth c D cy B H0 5 (mN M - N0) (10 * (mN M - N0)) Q 38 [(0, vR (some x0)), (1, vJ x1), (3, vI x3)] [] M := by
  intro M x0 x1 x3 z hf hK hN0
  unfold bb_X14_digest_38 at hf
  refine g_iload_n X dX14_digest_38 rfl rfl ?_
  refine g_aload_n X dX14_digest_39 rfl rfl ?_
  obtain ⟨hT41, hf⟩ := ck_e hf
  refine g_get (ci := 12) (v := vR (mR M x0 11)) 11 X cdX14 i_X14_digest_X14 (by decide) k_X14_digest_f35 rfl dX14_digest_40 rfl hT41 rfl ?_
  obtain ⟨a42, ha42, hf⟩ := dr_e hf
  obtain ⟨hT43, hf⟩ := ck_e hf
  refine g_getN (ci := 11) (w := vI (mI M a42 0)) 0 X cdX13 i_X14_digest_X13 (by decide) (gNw X _ kn_X14_60) rfl dX14_digest_43 ha42 hT43 rfl ?_
  refine g_icmp_ge (tgt := 130) X dX14_digest_46 (by decide) (fun hc => ?_) (fun hc => ?_)
  · have hf := ife_t hc hf
    refine g_iconst (v := (0 : Int32)) X dX14_digest_130 (by decide) ?_
    refine g_istore_n (lv' := [(3, vI (0 : Int32)), (0, vR (some x0)), (1, vJ x1)]) X dX14_digest_131 rfl (by decide) rfl ?_
    obtain ⟨w44, hw44, hz44⟩ := oI_e hf
    subst hz44
    have hf := hw44
    refine g_sub (lvsub_of _ _ [1, 2, 0] rfl) ?_
    exact tl_X14_digest_132 X hr _ _ _ _ _ hf hK hN0
  · have hf := ife_f hc hf
    refine g_iconst (v := (0 : Int32)) X dX14_digest_49 (by decide) ?_
    refine g_istore (lv' := [(4, vI (0 : Int32)), (0, vR (some x0)), (1, vJ x1), (3, vI x3)]) X dX14_digest_50 (by decide) rfl ?_
    refine g_sub (lvsub_of _ _ [1, 2, 3, 0] rfl) ?_
    exact tl_X14_digest_52 X hr _ _ _ _ _ _ hf hK hN0
set_option maxHeartbeats 4000000 in
set_option maxRecDepth 100000 in
theorem tl_X14_digest_38 (X : gX p s m args meth c D cy B (gSt Z B H0) RX14 cX14_digest wsX14_digest 5) (hr : meth.sig.returnType = (some .long)) {N0 : Nat} {Q : State → Prop} : ∀ (M : gMem) (x0 : Nat) (x1 : Int64) (x3 : Int32) (z : Int64 × gMem), lp_X14_digest_38 N0 M x0 x1 x3 = some z → (fun (r : Int64 × gMem) => Q = gMQ below D cy B H0 args s 140 1400 (some (vJ r.1)) r.2) z → N0 ≤ mN M → gGo p l e rX14_digest s m args below meth c D cy B H0 5 (mN M - N0) (10 * (mN M - N0)) Q 38 [(0, vR (some x0)), (1, vJ x1), (3, vI x3)] [] M := by
  intro M x0 x1 x3 z hf hK hN0
  refine lp_ind (P := (fun (q : gMem × Int64 × Int32) (z : Int64 × gMem) => (fun (r : Int64 × gMem) => Q = gMQ below D cy B H0 args s 140 1400 (some (vJ r.1)) r.2) z → N0 ≤ mN q.1 → gGo p l e rX14_digest s m args below meth c D cy B H0 5 (mN q.1 - N0) (10 * (mN q.1 - N0)) Q 38 [(0, vR (some x0)), (1, vJ q.2.1), (3, vI q.2.2)] [] q.1)) (fun q z hq => ?_) _ _ hf hK hN0
  intro hK hN0
  obtain ⟨w, hw, hm⟩ := hq
  refine tb_X14_digest_38 X hr _ _ _ _ w hw ?_ hN0
  cases w with
  | inl a => exact hm hK
  | inr b => cases hm; exact hK
set_option maxHeartbeats 4000000 in
set_option maxRecDepth 100000 in
theorem tb_X14_digest_11 (X : gX p s m args meth c D cy B (gSt Z B H0) RX14 cX14_digest wsX14_digest 5) (hr : meth.sig.returnType = (some .long)) {N0 : Nat} {Q : State → Prop} : ∀ (M : gMem) (x0 : Nat) (x1 : Int64) (x3 : Int32) (z : (gMem × Int64 × Int32) ⊕ (Int64 × gMem)), bb_X14_digest_11 N0 M x0 x1 x3 = some z → (Sum.elim (fun (q : gMem × Int64 × Int32) => N0 ≤ mN q.1 → gGo p l e rX14_digest s m args below meth c D cy B H0 5 (mN q.1 - N0) (10 * (mN q.1 - N0)) Q 11 [(0, vR (some x0)), (1, vJ q.2.1), (3, vI q.2.2)] [] q.1) (fun (r : Int64 × gMem) => Q = gMQ below D cy B H0 args s 140 1400 (some (vJ r.1)) r.2)) z → N0 ≤ mN M → gGo p l e rX14_digest s m args below meth c D cy B H0 5 (mN M - N0) (10 * (mN M - N0)) Q 11 [(0, vR (some x0)), (1, vJ x1), (3, vI x3)] [] M := by
  intro M x0 x1 x3 z hf hK hN0
  unfold bb_X14_digest_11 at hf
  refine g_iload_n X dX14_digest_11 rfl rfl ?_
  refine g_bipush (v := (9 : Int32)) X dX14_digest_12 (by decide) ?_
  refine g_icmp_gt (tgt := 36) X dX14_digest_14 (by decide) (fun hc => ?_) (fun hc => ?_)
  · have hf := ife_t hc hf
    refine g_iconst (v := (0 : Int32)) X dX14_digest_36 (by decide) ?_
    refine g_istore_n (lv' := [(3, vI (0 : Int32)), (0, vR (some x0)), (1, vJ x1)]) X dX14_digest_37 rfl (by decide) rfl ?_
    obtain ⟨w45, hw45, hz45⟩ := oI_e hf
    subst hz45
    have hf := hw45
    refine g_sub (lvsub_of _ _ [1, 2, 0] rfl) ?_
    exact tl_X14_digest_38 X hr _ _ _ _ _ hf hK hN0
  · have hf := ife_f hc hf
    refine g_lload_n X dX14_digest_17 rfl rfl ?_
    refine g_ldc2 (v := (31 : Int64)) X k_X14_digest_c375 dX14_digest_18 ?_
    refine g_lmul X dX14_digest_21 ?_
    refine g_aload_n X dX14_digest_22 rfl rfl ?_
    refine g_iload_n X dX14_digest_23 rfl rfl ?_
    obtain ⟨hT47, hf⟩ := ck_e hf
    obtain ⟨hg48, hf⟩ := ck_e hf
    obtain ⟨r46, M46, hq46, hf⟩ := bd_e hf
    obtain ⟨hg49, hf⟩ := ck_e hf
    refine g_callV (ci := 12) (b := x0) (As := [vI x3]) (st := [vJ (x1 * (31 : Int64))]) (v := some (vI r46)) (M1 := M46) X (m_X14_counted l hq46) (cwV 1 X.2.2.1 gX14_digest_X14_counted rfl rfl rfl (by decide +kernel) ⟨Nat.le_of_ble_eq_true rfl, Nat.le_of_ble_eq_true rfl⟩) rfl rfl rfl hT47 (by decide) rfl (Nat.le_of_ble_eq_true rfl) dX14_digest_24 ⟨by show _ ≤ 140; omega, by show _ ≤ 1400; omega⟩ ?_
    have hN46 : N0 ≤ mN M46 := by omega
    refine g_wide (k' := mN M46 - N0) (n' := 10 * (mN M46 - N0)) (by omega) (by omega) ?_
    refine g_i2l X dX14_digest_27 ?_
    refine g_ladd X dX14_digest_28 ?_
    refine g_lstore_n (lv' := [(1, vJ ((x1 * (31 : Int64)) + (Int32.toInt64 r46))), (0, vR (some x0)), (3, vI x3)]) X dX14_digest_29 rfl (by decide) rfl ?_
    refine g_iinc (v := (1 : Int32)) (lv' := [(3, vI (x3 + (1 : Int32))), (1, vJ ((x1 * (31 : Int64)) + (Int32.toInt64 r46))), (0, vR (some x0))]) X dX14_digest_30 rfl (by decide) (by decide) rfl ?_
    refine g_goto (tgt := 11) X dX14_digest_33 (by decide) ?_
    cases hf
    refine g_sub (lvsub_of _ _ [2, 1, 0] rfl) ?_
    exact hK hN46
set_option maxHeartbeats 4000000 in
set_option maxRecDepth 100000 in
theorem tl_X14_digest_11 (X : gX p s m args meth c D cy B (gSt Z B H0) RX14 cX14_digest wsX14_digest 5) (hr : meth.sig.returnType = (some .long)) {N0 : Nat} {Q : State → Prop} : ∀ (M : gMem) (x0 : Nat) (x1 : Int64) (x3 : Int32) (z : Int64 × gMem), lp_X14_digest_11 N0 M x0 x1 x3 = some z → (fun (r : Int64 × gMem) => Q = gMQ below D cy B H0 args s 140 1400 (some (vJ r.1)) r.2) z → N0 ≤ mN M → gGo p l e rX14_digest s m args below meth c D cy B H0 5 (mN M - N0) (10 * (mN M - N0)) Q 11 [(0, vR (some x0)), (1, vJ x1), (3, vI x3)] [] M := by
  intro M x0 x1 x3 z hf hK hN0
  refine lp_ind (P := (fun (q : gMem × Int64 × Int32) (z : Int64 × gMem) => (fun (r : Int64 × gMem) => Q = gMQ below D cy B H0 args s 140 1400 (some (vJ r.1)) r.2) z → N0 ≤ mN q.1 → gGo p l e rX14_digest s m args below meth c D cy B H0 5 (mN q.1 - N0) (10 * (mN q.1 - N0)) Q 11 [(0, vR (some x0)), (1, vJ q.2.1), (3, vI q.2.2)] [] q.1)) (fun q z hq => ?_) _ _ hf hK hN0
  intro hK hN0
  obtain ⟨w, hw, hm⟩ := hq
  refine tb_X14_digest_11 X hr _ _ _ _ w hw ?_ hN0
  cases w with
  | inl a => exact hm hK
  | inr b => cases hm; exact hK
set_option maxHeartbeats 4000000 in
set_option maxRecDepth 100000 in
theorem t_X14_digest_0 (X : gX p s m args meth c D cy B (gSt Z B H0) RX14 cX14_digest wsX14_digest 5) (hr : meth.sig.returnType = (some .long)) {N0 : Nat} {Q : State → Prop} : ∀ (M : gMem) (x0 : Nat) (z : Int64 × gMem), b_X14_digest_0 N0 M x0 = some z → (fun (r : Int64 × gMem) => Q = gMQ below D cy B H0 args s 140 1400 (some (vJ r.1)) r.2) z → N0 ≤ mN M → gGo p l e rX14_digest s m args below meth c D cy B H0 5 (mN M - N0) (10 * (mN M - N0)) Q 0 [(0, vR (some x0))] [] M := by
  intro M x0 z hf hK hN0
  unfold b_X14_digest_0 at hf
  refine g_aload_n X dX14_digest_0 rfl rfl ?_
  refine g_iconst (v := (0 : Int32)) X dX14_digest_1 (by decide) ?_
  obtain ⟨hT50, hf⟩ := ck_e hf
  refine g_putI (ci := 12) 0 X cdX14 i_X14_digest_X14 (by decide) k_X14_digest_f57 rfl dX14_digest_2 rfl hT50 (Or.inl rfl) rfl rfl rfl ?_
  obtain ⟨M51, hM51, hf⟩ := lw_e hf
  rw [← hM51]
  have hQ51 : mN M51 = mN M := by rw [hM51]; rfl
  have hN51 : N0 ≤ mN M51 := by omega
  refine g_wide (k' := mN M51 - N0) (n' := 10 * (mN M51 - N0)) (by omega) (by omega) ?_
  have hT52 : mT M51 x0 = 13 := by rw [hM51]; exact hT50
  refine g_ldc2 (v := (739 : Int64)) X k_X14_digest_c373 dX14_digest_5 ?_
  refine g_lstore_n (lv' := [(1, vJ (739 : Int64)), (0, vR (some x0))]) X dX14_digest_8 rfl (by decide) rfl ?_
  refine g_iconst (v := (0 : Int32)) X dX14_digest_9 (by decide) ?_
  refine g_istore_n (lv' := [(3, vI (0 : Int32)), (1, vJ (739 : Int64)), (0, vR (some x0))]) X dX14_digest_10 rfl (by decide) rfl ?_
  refine g_sub (lvsub_of _ _ [2, 1, 0] rfl) ?_
  exact tl_X14_digest_11 X hr _ _ _ _ _ hf hK hN51
set_option maxHeartbeats 4000000 in
set_option maxRecDepth 100000 in
theorem m_X14_digest (l : Launch) {D : va_G} {cy : Nat → ClassId} {B : Nat} {H0 : Heap} {Z : Nat → Nat} {M M1 : gMem} {x0 : Nat} {r : Int64} (hf : f_X14_digest M x0 = some (r, M1)) : Met l yX14_digest wsX14_digest rX14_digest (va_Pc (Value.ref x0 :: List.map gv []) (gPre D cy B H0 (gSt Z B H0) M)) (gQ D cy B H0 (some (vJ r)) M1) 140 1400 (gA B) := by
  refine Met.ofW (cc := cX14_digest) (maxL := 5) (ret := (some .long)) (by decide) rfl ?_
  intro p e s m args below meth c s₁ Bd hml hv
  obtain ⟨rfl, hW, hKK, hFs⟩ := hv
  have X : gX p s m _ meth c D cy B (gSt Z B H0) RX14 cX14_digest wsX14_digest 5 := ⟨Bd.exec, Bd.bytes, atoms_spec (ws := wsX14_digest) Bd.pre, findClass_of_methodNamed Bd.named, hml, hKK, by rw [hW.1]; exact hW.2.1, Bd.notSynchronized, hFs⟩
  have hr := Bd.returns
  have hl := lv_entry ([.ref x0]) (n := 5) (Nat.le_of_ble_eq_true rfl)
  show W p l e rX14_digest s m _ below meth c s.heap [] 0 0 _ (entryFrame m ([.ref x0] : List Value).toArray 5)
  rw [lg_entry_eq]
  generalize (lg_sl ([.ref x0]) ++ List.replicate (5 - (lg_sl ([.ref x0])).length) Slot.unset).toArray = ls at hl ⊢
  have hl : lv_has ls 5 (List.map gq [(0, vR (some x0))]) := hl
  refine (g_start0 (N := mN M) (SL := 10) ?_ : gGo p l e rX14_digest s m _ below meth c D cy B H0 5 0 0 _ 0 [(0, vR (some x0))] [] M) s.heap [] ls hW va_S.rf (lv_has_sub hl (lvsub_of _ _ [0] rfl))
  exact t_X14_digest_0 X hr _ _ _ hf rfl (Nat.le_refl _)
end
