/-! The words of what the law calls, 1 (written by law99h.py) -/
set_option maxRecDepth 20000 in
theorem ggL_law_X11_pact : GoodIn wsL_law wsX11_pact := goodIn_ca (goodIn_2 24 (goodIn_rr lwB_in _ [(33, 4), (30, 6), (30, 7), (12, 13), (30, 11), (33, 5), (33, 6), (33, 7), (33, 8), (33, 9), (33, 10), (33, 11), (33, 12), (33, 13), (33, 14), (14, 6), (33, 15), (15, 7), (43, 0), (43, 1), (43, 2), (43, 3), (47, 0), (47, 1)] (by decide +kernel) (by decide +kernel)) (goodIn_rr lwB_in _ [(47, 2), (47, 3), (47, 4), (47, 5), (47, 6), (47, 7), (47, 8), (47, 9), (47, 10), (47, 11), (47, 12), (47, 13), (47, 14), (47, 15), (47, 16), (51, 0), (51, 1), (51, 2), (51, 3), (51, 4), (51, 5), (51, 6), (51, 7)] (by decide +kernel) (by decide +kernel))) (goodIn_sub (fun _ h => List.mem_append_right _ h) (by decide +kernel))
set_option maxRecDepth 20000 in
theorem gL_law_X11_pact : GoodIn wsL_law (wsV RL 215 RX11 yX11_pact wsX11_pact) := goodIn_app (goodIn_of _ (by decide +kernel)) ggL_law_X11_pact
set_option maxRecDepth 20000 in
theorem ggL_law_X11_ground : GoodIn wsL_law wsX11_ground := goodIn_ca (goodIn_2 24 (goodIn_rr lwB_in _ [(32, 14), (30, 6), (30, 7), (12, 13), (32, 15), (32, 16), (32, 17), (32, 18), (32, 19), (32, 20), (32, 21), (32, 22), (0, 5), (32, 23), (30, 8), (33, 0), (30, 17), (30, 18), (14, 0), (30, 19), (14, 22), (43, 0), (43, 1), (43, 2)] (by decide +kernel) (by decide +kernel)) (goodIn_rr lwB_in _ [(43, 3), (47, 0), (47, 1), (47, 2), (47, 3), (47, 4), (47, 5), (47, 6), (47, 7), (47, 8), (47, 9), (47, 10), (47, 11), (47, 12), (47, 13), (47, 14), (47, 15), (47, 16), (49, 0), (49, 1), (49, 2), (49, 3)] (by decide +kernel) (by decide +kernel))) (goodIn_sub (fun _ h => List.mem_append_right _ h) (by decide +kernel))
set_option maxRecDepth 20000 in
theorem gL_law_X11_ground : GoodIn wsL_law (wsV RL 213 RX11 yX11_ground wsX11_ground) := goodIn_app (goodIn_of _ (by decide +kernel)) ggL_law_X11_ground
set_option maxRecDepth 20000 in
theorem ggL_law_X11_fisher : GoodIn wsL_law wsX11_fisher := goodIn_ca (goodIn_2 24 (goodIn_rr lwB_in _ [(31, 15), (30, 6), (30, 7), (12, 13), (31, 16), (31, 17), (31, 18), (31, 19), (31, 20), (31, 21), (31, 22), (31, 23), (32, 0), (32, 1), (32, 2), (32, 3), (32, 4), (32, 5), (0, 5), (32, 6), (30, 9), (43, 0), (43, 1), (43, 2)] (by decide +kernel) (by decide +kernel)) (goodIn_2 24 (goodIn_rr lwB_in _ [(43, 3), (47, 0), (47, 1), (47, 2), (47, 3), (47, 4), (47, 5), (47, 6), (47, 7), (47, 8), (47, 9), (47, 10), (47, 11), (47, 12), (47, 13), (47, 14), (47, 15), (47, 16), (50, 0), (50, 1), (50, 2), (50, 3), (50, 4), (50, 5)] (by decide +kernel) (by decide +kernel)) (goodIn_rr lwB_in _ [(50, 6), (50, 7), (50, 8), (50, 9), (50, 10)] (by decide +kernel) (by decide +kernel)))) (goodIn_sub (fun _ h => List.mem_append_right _ h) (by decide +kernel))
set_option maxRecDepth 20000 in
theorem gL_law_X11_fisher : GoodIn wsL_law (wsV RL 206 RX11 yX11_fisher wsX11_fisher) := goodIn_app (goodIn_of _ (by decide +kernel)) ggL_law_X11_fisher
set_option maxRecDepth 20000 in
theorem ggL_law_X11_took : GoodIn wsL_law wsX11_took := goodIn_ca (goodIn_2 24 (goodIn_rr lwB_in _ [(34, 13), (12, 13), (31, 16), (34, 14), (32, 20), (32, 21), (32, 22), (0, 5), (32, 23), (30, 6), (30, 7), (30, 8), (32, 3), (32, 4), (32, 5), (32, 6), (30, 9), (43, 0), (43, 1), (43, 2), (43, 3), (47, 0), (47, 1), (47, 2)] (by decide +kernel) (by decide +kernel)) (goodIn_2 24 (goodIn_rr lwB_in _ [(47, 3), (47, 4), (47, 5), (47, 6), (47, 7), (47, 8), (47, 9), (47, 10), (47, 11), (47, 12), (47, 13), (47, 14), (47, 15), (47, 16), (50, 0), (50, 1), (50, 2), (50, 3), (50, 4), (50, 5), (50, 6), (50, 7), (50, 8), (50, 9)] (by decide +kernel) (by decide +kernel)) (goodIn_rr lwB_in _ [(50, 10)] (by decide +kernel) (by decide +kernel)))) (goodIn_sub (fun _ h => List.mem_append_right _ h) (by decide +kernel))
set_option maxRecDepth 20000 in
theorem gL_law_X11_took : GoodIn wsL_law (wsV RL 245 RX11 yX11_took wsX11_took) := goodIn_app (goodIn_of _ (by decide +kernel)) ggL_law_X11_took
set_option maxRecDepth 20000 in
theorem ggL_law_X11_blame : GoodIn wsL_law wsX11_blame := goodIn_ca (goodIn_2 24 (goodIn_rr lwB_in _ [(40, 17), (12, 13), (30, 9), (31, 16), (34, 14), (32, 20), (32, 21), (32, 22), (0, 5), (32, 23), (30, 6), (30, 7), (30, 8), (43, 0), (43, 1), (43, 2), (43, 3), (47, 0), (47, 1), (47, 2), (47, 3), (47, 4), (47, 5), (47, 6)] (by decide +kernel) (by decide +kernel)) (goodIn_rr lwB_in _ [(47, 7), (47, 8), (47, 9), (47, 10), (47, 11), (47, 12), (47, 13), (47, 14), (47, 15), (47, 16), (50, 0), (50, 1), (50, 2), (50, 3), (50, 4), (50, 5), (50, 6), (50, 7), (50, 8), (50, 9), (50, 10)] (by decide +kernel) (by decide +kernel))) (goodIn_sub (fun _ h => List.mem_append_right _ h) (by decide +kernel))
set_option maxRecDepth 20000 in
theorem gL_law_X11_blame : GoodIn wsL_law (wsV RL 236 RX11 yX11_blame wsX11_blame) := goodIn_app (goodIn_of _ (by decide +kernel)) ggL_law_X11_blame
set_option maxRecDepth 20000 in
theorem ggL_law_X11_pass_c : GoodIn wsL_law [.code yX11_pass cX11_pass 2 (some .int)] := goodIn_rr lwB_in _ [(40, 21)] (by decide +kernel) (by decide +kernel)
set_option maxRecDepth 20000 in
theorem ggL_law_X11_pass_wsX11_pass_r1 : GoodIn wsL_law wsX11_pass_r1 := goodIn_rr lwB_in _ [(12, 13), (34, 21), (34, 22), (0, 5), (34, 23), (15, 19), (15, 20), (35, 21), (35, 22), (35, 23), (12, 12), (36, 0), (13, 7), (21, 11), (13, 20), (21, 13), (13, 15), (21, 10), (13, 9), (35, 8), (36, 1), (33, 22), (33, 23), (34, 0)] (by decide +kernel) (by decide +kernel)
set_option maxRecDepth 20000 in
theorem ggL_law_X11_pass_wsX11_pass_r2 : GoodIn wsL_law wsX11_pass_r2 := goodIn_rr lwB_in _ [(13, 21), (34, 1), (36, 2), (36, 3), (36, 4), (36, 5), (36, 6), (36, 7), (36, 8), (36, 9), (36, 10), (21, 12), (13, 13), (36, 11), (36, 12), (36, 13), (36, 14), (36, 15), (13, 19), (36, 16), (36, 17), (36, 18), (13, 18), (36, 19)] (by decide +kernel) (by decide +kernel)
set_option maxRecDepth 20000 in
theorem ggL_law_X11_pass_wsX11_pass_r3 : GoodIn wsL_law wsX11_pass_r3 := goodIn_rr lwB_in _ [(27, 1), (36, 20), (14, 15), (14, 17), (14, 16), (36, 21), (36, 22), (21, 21), (21, 22), (21, 23), (22, 0), (22, 1), (22, 2), (36, 23), (37, 0), (37, 1), (37, 2), (37, 3), (37, 4), (37, 5), (37, 6), (37, 7), (37, 8), (37, 9)] (by decide +kernel) (by decide +kernel)
set_option maxRecDepth 20000 in
theorem ggL_law_X11_pass_wsX11_pass_r4 : GoodIn wsL_law wsX11_pass_r4 := goodIn_rr lwB_in _ [(37, 10), (30, 17), (30, 18), (14, 0), (30, 19), (14, 22), (37, 11), (37, 12), (37, 13), (37, 14), (5, 4), (4, 11), (5, 5), (37, 15), (4, 10), (4, 12), (37, 16), (37, 17), (37, 18), (37, 19), (13, 11), (31, 11), (37, 20), (37, 21)] (by decide +kernel) (by decide +kernel)
set_option maxRecDepth 20000 in
theorem ggL_law_X11_pass_wsX11_pass_r5 : GoodIn wsL_law wsX11_pass_r5 := goodIn_rr lwB_in _ [(37, 22), (37, 23), (29, 19), (29, 20), (14, 6), (29, 21), (29, 10), (15, 8), (30, 16), (38, 0), (38, 1), (38, 2), (38, 3), (38, 4), (38, 5), (38, 6), (38, 7), (38, 8), (38, 9), (38, 10), (31, 5), (13, 22), (38, 11), (38, 12)] (by decide +kernel) (by decide +kernel)
set_option maxRecDepth 20000 in
theorem ggL_law_X11_pass_wsX11_pass_r6 : GoodIn wsL_law wsX11_pass_r6 := goodIn_rr lwB_in _ [(23, 16), (38, 13), (38, 14), (38, 15), (38, 16), (14, 3), (38, 17), (25, 7), (38, 18), (25, 12), (38, 19), (38, 20), (38, 21), (38, 22), (38, 23), (39, 0), (39, 1), (39, 2), (39, 3), (39, 4), (39, 5), (39, 6), (39, 7), (39, 8)] (by decide +kernel) (by decide +kernel)
set_option maxRecDepth 20000 in
theorem ggL_law_X11_pass_wsX11_pass_r7 : GoodIn wsL_law wsX11_pass_r7 := goodIn_rr lwB_in _ [(39, 9), (39, 10), (33, 13), (33, 14), (33, 15), (15, 7), (39, 11), (39, 12), (39, 13), (39, 14), (31, 0), (39, 15), (39, 16), (39, 17), (39, 18), (39, 19), (39, 20)] (by decide +kernel) (by decide +kernel)
set_option maxRecDepth 20000 in
theorem ggL_law_X11_pass_wsX110 : GoodIn wsL_law wsX110 := goodIn_sub (lwB_x (k := 43) rfl) (by decide +kernel)
set_option maxRecDepth 20000 in
theorem ggL_law_X11_pass_wsX70 : GoodIn wsL_law wsX70 := goodIn_sub (lwB_x (k := 47) rfl) (by decide +kernel)
set_option maxRecDepth 20000 in
theorem ggL_law_X11_pass_wsX30 : GoodIn wsL_law wsX30 := goodIn_sub (lwB_x (k := 49) rfl) (by decide +kernel)
set_option maxRecDepth 20000 in
theorem ggL_law_X11_pass_wsX20 : GoodIn wsL_law wsX20 := goodIn_sub (lwB_x (k := 52) rfl) (by decide +kernel)
set_option maxRecDepth 20000 in
theorem ggL_law_X11_pass_wsX90 : GoodIn wsL_law wsX90 := goodIn_sub (lwB_x (k := 48) rfl) (by decide +kernel)
set_option maxRecDepth 20000 in
theorem ggL_law_X11_pass_wsX10 : GoodIn wsL_law wsX10 := goodIn_sub (lwB_x (k := 50) rfl) (by decide +kernel)
set_option maxRecDepth 20000 in
theorem ggL_law_X11_pass_wsX50 : GoodIn wsL_law wsX50 := goodIn_sub (lwB_x (k := 51) rfl) (by decide +kernel)
set_option maxRecDepth 20000 in
theorem ggL_law_X11_pass : GoodIn wsL_law wsX11_pass := goodIn_ca (goodIn_c1 ggL_law_X11_pass_c (goodIn_app (goodIn_app (goodIn_app (goodIn_app (goodIn_app (goodIn_app (goodIn_app (goodIn_app ggL_law_X11_pass_wsX11_pass_r1 (goodIn_app ggL_law_X11_pass_wsX11_pass_r2 (goodIn_app ggL_law_X11_pass_wsX11_pass_r3 (goodIn_app ggL_law_X11_pass_wsX11_pass_r4 (goodIn_app ggL_law_X11_pass_wsX11_pass_r5 (goodIn_app ggL_law_X11_pass_wsX11_pass_r6 ggL_law_X11_pass_wsX11_pass_r7)))))) ggL_law_X11_pass_wsX110) ggL_law_X11_pass_wsX70) ggL_law_X11_pass_wsX30) ggL_law_X11_pass_wsX20) ggL_law_X11_pass_wsX90) ggL_law_X11_pass_wsX10) ggL_law_X11_pass_wsX50)) (goodIn_sub (fun _ h => List.mem_append_left _ (List.mem_append_left _ (List.mem_append_right _ h))) (by decide +kernel))
set_option maxRecDepth 20000 in
theorem gL_law_X11_pass : GoodIn wsL_law (wsV RL 239 RX11 yX11_pass wsX11_pass) := goodIn_app (goodIn_of _ (by decide +kernel)) ggL_law_X11_pass
set_option maxRecDepth 20000 in
theorem ggL_law_X11_count : GoodIn wsL_law wsX11_count := goodIn_ca (goodIn_2 24 (goodIn_rr lwB_in _ [(30, 5), (30, 6), (30, 7), (12, 13), (17, 18), (30, 8), (30, 9), (30, 10), (30, 11), (12, 9), (15, 21), (30, 12), (30, 13), (30, 14), (12, 12), (30, 15), (21, 10), (13, 9), (30, 16), (30, 17), (30, 18), (14, 0), (30, 19), (14, 22)] (by decide +kernel) (by decide +kernel)) (goodIn_2 24 (goodIn_rr lwB_in _ [(30, 20), (30, 21), (30, 22), (30, 23), (21, 11), (13, 11), (31, 0), (31, 1), (31, 2), (31, 3), (31, 4), (31, 5), (31, 6), (31, 7), (31, 8), (31, 9), (31, 10), (31, 11), (43, 0), (43, 1), (43, 2), (43, 3), (47, 0), (47, 1)] (by decide +kernel) (by decide +kernel)) (goodIn_2 24 (goodIn_rr lwB_in _ [(47, 2), (47, 3), (47, 4), (47, 5), (47, 6), (47, 7), (47, 8), (47, 9), (47, 10), (47, 11), (47, 12), (47, 13), (47, 14), (47, 15), (47, 16), (46, 0), (46, 1), (46, 2), (46, 3), (46, 4), (46, 5), (49, 0), (49, 1), (49, 2)] (by decide +kernel) (by decide +kernel)) (goodIn_rr lwB_in _ [(49, 3), (50, 0), (50, 1), (50, 2), (50, 3), (50, 4), (50, 5), (50, 6), (50, 7), (50, 8), (50, 9), (50, 10)] (by decide +kernel) (by decide +kernel))))) (goodIn_sub (fun _ h => List.mem_append_right _ h) (by decide +kernel))
set_option maxRecDepth 20000 in
theorem gL_law_X11_count : GoodIn wsL_law (wsV RL 203 RX11 yX11_count wsX11_count) := goodIn_app (goodIn_of _ (by decide +kernel)) ggL_law_X11_count
set_option maxRecDepth 20000 in
theorem ggL_law_X11_gap : GoodIn wsL_law wsX11_gap := goodIn_2 24 (goodIn_rr lwB_in _ [(41, 1), (12, 13), (39, 21), (39, 22), (39, 23), (12, 12), (40, 0), (21, 11), (13, 11), (31, 0), (23, 16), (5, 4), (4, 11), (5, 5), (40, 1), (4, 10), (4, 12), (43, 0), (43, 1), (43, 2), (43, 3), (47, 0), (47, 1), (47, 2)] (by decide +kernel) (by decide +kernel)) (goodIn_2 24 (goodIn_rr lwB_in _ [(47, 3), (47, 4), (47, 5), (47, 6), (47, 7), (47, 8), (47, 9), (47, 10), (47, 11), (47, 12), (47, 13), (47, 14), (47, 15), (47, 16), (50, 0), (50, 1), (50, 2), (50, 3), (50, 4), (50, 5), (50, 6), (50, 7), (50, 8), (50, 9)] (by decide +kernel) (by decide +kernel)) (goodIn_rr lwB_in _ [(50, 10)] (by decide +kernel) (by decide +kernel)))
set_option maxRecDepth 20000 in
theorem gL_law_X11_gap : GoodIn wsL_law (wsV RL 242 RX11 yX11_gap wsX11_gap) := goodIn_app (goodIn_of _ (by decide +kernel)) ggL_law_X11_gap
set_option maxRecDepth 20000 in
theorem ggL_law_X11_digest_c : GoodIn wsL_law [.code yX11_digest cX11_digest 5 (some .long)] := goodIn_rr lwB_in _ [(34, 5)] (by decide +kernel) (by decide +kernel)
set_option maxRecDepth 20000 in
theorem ggL_law_X11_digest_wsX11_digest_r1 : GoodIn wsL_law wsX11_digest_r1 := goodIn_rr lwB_in _ [(34, 6), (34, 7), (12, 13), (30, 8), (30, 9), (30, 11), (33, 20), (34, 8), (30, 3), (30, 4), (0, 5), (30, 5), (30, 6), (30, 7), (17, 18), (30, 10), (12, 9), (15, 21), (30, 12), (30, 13), (30, 14), (12, 12), (30, 15), (21, 10)] (by decide +kernel) (by decide +kernel)
set_option maxRecDepth 20000 in
theorem ggL_law_X11_digest_wsX11_digest_r2 : GoodIn wsL_law wsX11_digest_r2 := goodIn_rr lwB_in _ [(13, 9), (30, 16), (30, 17), (30, 18), (14, 0), (30, 19), (14, 22), (30, 20), (30, 21), (30, 22), (30, 23), (21, 11), (13, 11), (31, 0), (31, 1), (31, 2), (31, 3), (31, 4), (31, 5), (31, 6), (31, 7), (31, 8), (31, 9), (31, 10)] (by decide +kernel) (by decide +kernel)
set_option maxRecDepth 20000 in
theorem ggL_law_X11_digest_wsX11_digest_r3 : GoodIn wsL_law wsX11_digest_r3 := goodIn_rr lwB_in _ [(31, 11), (34, 9), (32, 12), (32, 13), (32, 14), (32, 15), (32, 16), (32, 17), (32, 18), (32, 19), (32, 20), (32, 21), (32, 22), (32, 23), (33, 0), (34, 10), (34, 11), (34, 12), (34, 13), (31, 16), (34, 14), (32, 3), (32, 4), (32, 5)] (by decide +kernel) (by decide +kernel)
set_option maxRecDepth 20000 in
theorem ggL_law_X11_digest_wsX11_digest_r4 : GoodIn wsL_law wsX11_digest_r4 := goodIn_rr lwB_in _ [(32, 6), (34, 15), (31, 13), (31, 14), (31, 15), (31, 17), (31, 18), (31, 19), (31, 20), (31, 21), (31, 22), (31, 23), (32, 0), (32, 1), (32, 2), (34, 16), (33, 2), (33, 3), (33, 4), (33, 5), (33, 6), (33, 7), (33, 8), (33, 9)] (by decide +kernel) (by decide +kernel)
set_option maxRecDepth 20000 in
theorem ggL_law_X11_digest_wsX11_digest_r5 : GoodIn wsL_law wsX11_digest_r5 := goodIn_rr lwB_in _ [(33, 10), (33, 11), (33, 12), (33, 13), (33, 14), (14, 6), (33, 15), (15, 7), (33, 21), (33, 22), (33, 23), (34, 0), (13, 7), (13, 21), (34, 1), (13, 20)] (by decide +kernel) (by decide +kernel)
set_option maxRecDepth 20000 in
theorem ggL_law_X11_digest_wsX110 : GoodIn wsL_law wsX110 := goodIn_sub (lwB_x (k := 43) rfl) (by decide +kernel)
set_option maxRecDepth 20000 in
theorem ggL_law_X11_digest_wsX70 : GoodIn wsL_law wsX70 := goodIn_sub (lwB_x (k := 47) rfl) (by decide +kernel)
set_option maxRecDepth 20000 in
theorem ggL_law_X11_digest_wsX100 : GoodIn wsL_law wsX100 := goodIn_sub (lwB_x (k := 46) rfl) (by decide +kernel)
set_option maxRecDepth 20000 in
theorem ggL_law_X11_digest_wsX30 : GoodIn wsL_law wsX30 := goodIn_sub (lwB_x (k := 49) rfl) (by decide +kernel)
set_option maxRecDepth 20000 in
theorem ggL_law_X11_digest_wsX10 : GoodIn wsL_law wsX10 := goodIn_sub (lwB_x (k := 50) rfl) (by decide +kernel)
set_option maxRecDepth 20000 in
theorem ggL_law_X11_digest_wsX50 : GoodIn wsL_law wsX50 := goodIn_sub (lwB_x (k := 51) rfl) (by decide +kernel)
set_option maxRecDepth 20000 in
theorem ggL_law_X11_digest : GoodIn wsL_law wsX11_digest := goodIn_ca (goodIn_c1 ggL_law_X11_digest_c (goodIn_app (goodIn_app (goodIn_app (goodIn_app (goodIn_app (goodIn_app (goodIn_app ggL_law_X11_digest_wsX11_digest_r1 (goodIn_app ggL_law_X11_digest_wsX11_digest_r2 (goodIn_app ggL_law_X11_digest_wsX11_digest_r3 (goodIn_app ggL_law_X11_digest_wsX11_digest_r4 ggL_law_X11_digest_wsX11_digest_r5)))) ggL_law_X11_digest_wsX110) ggL_law_X11_digest_wsX70) ggL_law_X11_digest_wsX100) ggL_law_X11_digest_wsX30) ggL_law_X11_digest_wsX10) ggL_law_X11_digest_wsX50)) (goodIn_sub (fun _ h => List.mem_append_right _ h) (by decide +kernel))
set_option maxRecDepth 20000 in
theorem gL_law_X11_digest : GoodIn wsL_law (wsV RL 220 RX11 yX11_digest wsX11_digest) := goodIn_app (goodIn_of _ (by decide +kernel)) ggL_law_X11_digest
set_option maxRecDepth 20000 in
theorem ggL_law_X11_foresee_c : GoodIn wsL_law [.code yX11_foresee cX11_foresee 4 (some .int)] := goodIn_rr lwB_in _ [(34, 20)] (by decide +kernel) (by decide +kernel)
set_option maxRecDepth 20000 in
theorem ggL_law_X11_foresee_wsX11_foresee_r1 : GoodIn wsL_law wsX11_foresee_r1 := goodIn_rr lwB_in _ [(30, 6), (30, 7), (34, 21), (34, 22), (0, 5), (34, 23), (15, 19), (15, 20), (35, 0), (35, 1), (35, 2), (35, 3), (12, 14), (12, 13), (35, 4), (35, 5), (35, 6), (12, 12), (35, 7), (35, 8), (13, 7), (21, 10), (21, 11), (21, 12)] (by decide +kernel) (by decide +kernel)
set_option maxRecDepth 20000 in
theorem ggL_law_X11_foresee_wsX11_foresee_r2 : GoodIn wsL_law wsX11_foresee_r2 := goodIn_rr lwB_in _ [(21, 13), (13, 9), (13, 11), (13, 13), (13, 15), (13, 19), (23, 17), (23, 18), (23, 19), (14, 0), (23, 20), (23, 21), (23, 22), (23, 23), (14, 22), (25, 2), (25, 3), (25, 4), (14, 3), (25, 5), (25, 6), (25, 7), (25, 8), (25, 9)] (by decide +kernel) (by decide +kernel)
set_option maxRecDepth 20000 in
theorem ggL_law_X11_foresee_wsX11_foresee_r3 : GoodIn wsL_law wsX11_foresee_r3 := goodIn_rr lwB_in _ [(25, 10), (25, 11), (15, 2), (25, 12), (25, 13), (25, 14), (15, 3), (35, 9), (35, 10), (35, 11), (14, 9), (35, 12), (35, 13), (35, 14), (35, 15), (35, 16), (29, 4), (29, 5), (29, 6), (14, 6), (29, 7), (15, 7), (29, 8), (29, 9)] (by decide +kernel) (by decide +kernel)
set_option maxRecDepth 20000 in
theorem ggL_law_X11_foresee_wsX11_foresee_r4 : GoodIn wsL_law wsX11_foresee_r4 := goodIn_rr lwB_in _ [(29, 10), (29, 11), (29, 12), (29, 13), (15, 8), (35, 17), (35, 18), (35, 19), (13, 18), (35, 20), (27, 1), (14, 15), (14, 16), (35, 21), (35, 22), (35, 23), (36, 0), (13, 20), (36, 1), (33, 22), (33, 23), (34, 0), (13, 21), (34, 1)] (by decide +kernel) (by decide +kernel)
set_option maxRecDepth 20000 in
theorem ggL_law_X11_foresee_wsX11_foresee_r5 : GoodIn wsL_law wsX11_foresee_r5 := goodIn_rr lwB_in _ [(36, 2), (36, 3), (36, 4), (36, 5), (36, 6), (36, 7), (36, 8), (36, 9), (36, 10), (36, 11), (36, 12), (36, 13), (36, 14), (36, 15), (36, 16), (36, 17), (36, 18), (36, 19), (36, 20), (14, 17), (36, 21), (36, 22), (21, 21), (21, 22)] (by decide +kernel) (by decide +kernel)
set_option maxRecDepth 20000 in
theorem ggL_law_X11_foresee_wsX11_foresee_r6 : GoodIn wsL_law wsX11_foresee_r6 := goodIn_rr lwB_in _ [(21, 23), (22, 0), (22, 1), (22, 2), (36, 23), (37, 0), (37, 1), (37, 2), (37, 3), (37, 4), (37, 5), (37, 6), (37, 7), (37, 8), (37, 9), (37, 10), (30, 17), (30, 18), (30, 19), (37, 11), (37, 12), (37, 13), (37, 14), (5, 4)] (by decide +kernel) (by decide +kernel)
set_option maxRecDepth 20000 in
theorem ggL_law_X11_foresee_wsX11_foresee_r7 : GoodIn wsL_law wsX11_foresee_r7 := goodIn_rr lwB_in _ [(4, 11), (5, 5), (37, 15), (4, 10), (4, 12), (37, 16), (37, 17), (37, 18), (37, 19), (31, 11), (37, 20), (37, 21), (37, 22), (37, 23), (29, 19), (29, 20), (29, 21), (30, 16), (38, 0), (38, 1), (38, 2), (38, 3), (38, 4), (38, 5)] (by decide +kernel) (by decide +kernel)
set_option maxRecDepth 20000 in
theorem ggL_law_X11_foresee_wsX11_foresee_r8 : GoodIn wsL_law wsX11_foresee_r8 := goodIn_rr lwB_in _ [(38, 6), (38, 7), (38, 8), (38, 9), (38, 10), (31, 5), (13, 22), (38, 11), (38, 12), (23, 16), (38, 13), (38, 14), (38, 15), (38, 16), (38, 17), (38, 18), (38, 19), (38, 20), (38, 21), (38, 22), (38, 23), (39, 0), (39, 1), (39, 2)] (by decide +kernel) (by decide +kernel)
set_option maxRecDepth 20000 in
theorem ggL_law_X11_foresee_wsX11_foresee_r9 : GoodIn wsL_law wsX11_foresee_r9 := goodIn_rr lwB_in _ [(39, 3), (39, 4), (39, 5), (39, 6), (39, 7), (39, 8), (39, 9), (39, 10), (33, 13), (33, 14), (33, 15), (39, 11), (39, 12), (39, 13), (39, 14), (31, 0), (39, 15), (39, 16), (39, 17), (39, 18), (39, 19), (39, 20), (30, 20), (30, 21)] (by decide +kernel) (by decide +kernel)
set_option maxRecDepth 20000 in
theorem ggL_law_X11_foresee_wsX11_foresee_r10 : GoodIn wsL_law wsX11_foresee_r10 := goodIn_rr lwB_in _ [(30, 22), (30, 23), (30, 12), (30, 13), (30, 14), (30, 15), (39, 21), (39, 22), (39, 23), (40, 0), (40, 1)] (by decide +kernel) (by decide +kernel)
set_option maxRecDepth 20000 in
theorem ggL_law_X11_foresee_wsX110 : GoodIn wsL_law wsX110 := goodIn_sub (lwB_x (k := 43) rfl) (by decide +kernel)
set_option maxRecDepth 20000 in
theorem ggL_law_X11_foresee_wsX70 : GoodIn wsL_law wsX70 := goodIn_sub (lwB_x (k := 47) rfl) (by decide +kernel)
set_option maxRecDepth 20000 in
theorem ggL_law_X11_foresee_wsX30 : GoodIn wsL_law wsX30 := goodIn_sub (lwB_x (k := 49) rfl) (by decide +kernel)
set_option maxRecDepth 20000 in
theorem ggL_law_X11_foresee_wsX10 : GoodIn wsL_law wsX10 := goodIn_sub (lwB_x (k := 50) rfl) (by decide +kernel)
set_option maxRecDepth 20000 in
theorem ggL_law_X11_foresee_wsX20 : GoodIn wsL_law wsX20 := goodIn_sub (lwB_x (k := 52) rfl) (by decide +kernel)
set_option maxRecDepth 20000 in
theorem ggL_law_X11_foresee_wsX50 : GoodIn wsL_law wsX50 := goodIn_sub (lwB_x (k := 51) rfl) (by decide +kernel)
set_option maxRecDepth 20000 in
theorem ggL_law_X11_foresee_wsX90 : GoodIn wsL_law wsX90 := goodIn_sub (lwB_x (k := 48) rfl) (by decide +kernel)
set_option maxRecDepth 20000 in
theorem ggL_law_X11_foresee : GoodIn wsL_law wsX11_foresee := goodIn_ca (goodIn_ca (goodIn_c1 ggL_law_X11_foresee_c (goodIn_app (goodIn_app (goodIn_app (goodIn_app (goodIn_app (goodIn_app (goodIn_app (goodIn_app ggL_law_X11_foresee_wsX11_foresee_r1 (goodIn_app ggL_law_X11_foresee_wsX11_foresee_r2 (goodIn_app ggL_law_X11_foresee_wsX11_foresee_r3 (goodIn_app ggL_law_X11_foresee_wsX11_foresee_r4 (goodIn_app ggL_law_X11_foresee_wsX11_foresee_r5 (goodIn_app ggL_law_X11_foresee_wsX11_foresee_r6 (goodIn_app ggL_law_X11_foresee_wsX11_foresee_r7 (goodIn_app ggL_law_X11_foresee_wsX11_foresee_r8 (goodIn_app ggL_law_X11_foresee_wsX11_foresee_r9 ggL_law_X11_foresee_wsX11_foresee_r10))))))))) ggL_law_X11_foresee_wsX110) ggL_law_X11_foresee_wsX70) ggL_law_X11_foresee_wsX30) ggL_law_X11_foresee_wsX10) ggL_law_X11_foresee_wsX20) ggL_law_X11_foresee_wsX50) ggL_law_X11_foresee_wsX90)) (goodIn_sub (fun _ h => List.mem_append_right _ h) (by decide +kernel))) (goodIn_sub (fun _ h => List.mem_append_left _ (List.mem_append_left _ (List.mem_append_right _ h))) (by decide +kernel))
set_option maxRecDepth 20000 in
theorem gL_law_X11_foresee : GoodIn wsL_law (wsV RL 224 RX11 yX11_foresee wsX11_foresee) := goodIn_app (goodIn_of _ (by decide +kernel)) ggL_law_X11_foresee
set_option maxRecDepth 20000 in
theorem ggL_law_L_below : GoodIn wsL_law wsL_below := goodIn_rr lwB_in _ [(3, 1), (3, 2)] (by decide +kernel) (by decide +kernel)
set_option maxRecDepth 20000 in
theorem gL_law_L_below : GoodIn wsL_law (va_wsS RL 124 yL_below wsL_below) := goodIn_app (goodIn_of _ (by decide +kernel)) ggL_law_L_below
set_option maxRecDepth 20000 in
theorem ggL_law_X11_empty_c : GoodIn wsL_law [.code yX11_empty cX11_empty 4 (some .int)] := goodIn_rr lwB_in _ [(40, 5)] (by decide +kernel) (by decide +kernel)
set_option maxRecDepth 20000 in
theorem ggL_law_X11_empty_wsX11_empty_r1 : GoodIn wsL_law wsX11_empty_r1 := goodIn_rr lwB_in _ [(32, 15), (32, 20), (32, 21), (32, 22), (0, 5), (32, 23), (30, 6), (30, 7), (12, 13), (30, 8), (35, 0), (35, 1), (35, 2), (35, 3), (12, 14), (35, 4), (35, 5), (35, 6), (12, 12), (35, 7), (35, 8), (13, 7), (21, 10), (21, 11)] (by decide +kernel) (by decide +kernel)
set_option maxRecDepth 20000 in
theorem ggL_law_X11_empty_wsX11_empty_r2 : GoodIn wsL_law wsX11_empty_r2 := goodIn_rr lwB_in _ [(21, 12), (21, 13), (13, 9), (13, 11), (13, 13), (13, 15), (13, 19), (23, 17), (23, 18), (23, 19), (14, 0), (23, 20), (23, 21), (23, 22), (23, 23), (14, 22), (25, 2), (25, 3), (25, 4), (14, 3), (25, 5), (25, 6), (25, 7), (25, 8)] (by decide +kernel) (by decide +kernel)
set_option maxRecDepth 20000 in
theorem ggL_law_X11_empty_wsX11_empty_r3 : GoodIn wsL_law wsX11_empty_r3 := goodIn_rr lwB_in _ [(25, 9), (25, 10), (25, 11), (15, 2), (25, 12), (25, 13), (25, 14), (15, 3), (35, 9), (35, 10), (35, 11), (14, 9), (35, 12), (35, 13), (35, 14), (35, 15), (35, 16), (29, 4), (29, 5), (29, 6), (14, 6), (29, 7), (15, 7), (29, 8)] (by decide +kernel) (by decide +kernel)
set_option maxRecDepth 20000 in
theorem ggL_law_X11_empty_wsX11_empty_r4 : GoodIn wsL_law wsX11_empty_r4 := goodIn_rr lwB_in _ [(29, 9), (29, 10), (29, 11), (29, 12), (29, 13), (15, 8), (35, 17), (35, 18), (35, 19), (13, 18), (35, 20), (27, 1), (14, 15), (14, 16), (35, 21), (35, 22), (35, 23), (36, 0), (13, 20), (36, 1), (33, 22), (33, 23), (34, 0), (13, 21)] (by decide +kernel) (by decide +kernel)
set_option maxRecDepth 20000 in
theorem ggL_law_X11_empty_wsX11_empty_r5 : GoodIn wsL_law wsX11_empty_r5 := goodIn_rr lwB_in _ [(34, 1), (36, 2), (36, 3), (36, 4), (36, 5), (36, 6), (36, 7), (36, 8), (36, 9), (36, 10), (36, 11), (36, 12), (36, 13), (36, 14), (36, 15), (36, 16), (36, 17), (36, 18), (36, 19), (36, 20), (14, 17), (36, 21), (36, 22), (21, 21)] (by decide +kernel) (by decide +kernel)
set_option maxRecDepth 20000 in
theorem ggL_law_X11_empty_wsX11_empty_r6 : GoodIn wsL_law wsX11_empty_r6 := goodIn_rr lwB_in _ [(21, 22), (21, 23), (22, 0), (22, 1), (22, 2), (36, 23), (37, 0), (37, 1), (37, 2), (37, 3), (37, 4), (37, 5), (37, 6), (37, 7), (37, 8), (37, 9), (37, 10), (30, 17), (30, 18), (30, 19), (37, 11), (37, 12), (37, 13), (37, 14)] (by decide +kernel) (by decide +kernel)
