/-! The words of what the law calls, 2 (written by law99h.py) -/
set_option maxRecDepth 20000 in
theorem ggL_law_X11_empty_wsX11_empty_r7 : GoodIn wsL_law wsX11_empty_r7 := goodIn_rr lwB_in _ [(5, 4), (4, 11), (5, 5), (37, 15), (4, 10), (4, 12), (37, 16), (37, 17), (37, 18), (37, 19), (31, 11), (37, 20), (37, 21), (37, 22), (37, 23), (29, 19), (29, 20), (29, 21), (30, 16), (38, 0), (38, 1), (38, 2), (38, 3), (38, 4)] (by decide +kernel) (by decide +kernel)
set_option maxRecDepth 20000 in
theorem ggL_law_X11_empty_wsX11_empty_r8 : GoodIn wsL_law wsX11_empty_r8 := goodIn_rr lwB_in _ [(38, 5), (38, 6), (38, 7), (38, 8), (38, 9), (38, 10), (31, 5), (13, 22), (38, 11), (38, 12), (23, 16), (38, 13), (38, 14), (38, 15), (38, 16), (38, 17), (38, 18), (38, 19), (38, 20), (38, 21), (38, 22), (38, 23), (39, 0), (39, 1)] (by decide +kernel) (by decide +kernel)
set_option maxRecDepth 20000 in
theorem ggL_law_X11_empty_wsX11_empty_r9 : GoodIn wsL_law wsX11_empty_r9 := goodIn_rr lwB_in _ [(39, 2), (39, 3), (39, 4), (39, 5), (39, 6), (39, 7), (39, 8), (39, 9), (39, 10), (33, 13), (33, 14), (33, 15), (39, 11), (39, 12), (39, 13), (39, 14), (31, 0), (39, 15), (39, 16), (39, 17), (39, 18), (39, 19), (39, 20), (33, 0)] (by decide +kernel) (by decide +kernel)
set_option maxRecDepth 20000 in
theorem ggL_law_X11_empty_wsX70 : GoodIn wsL_law wsX70 := goodIn_sub (lwB_x (k := 47) rfl) (by decide +kernel)
set_option maxRecDepth 20000 in
theorem ggL_law_X11_empty_wsX110 : GoodIn wsL_law wsX110 := goodIn_sub (lwB_x (k := 43) rfl) (by decide +kernel)
set_option maxRecDepth 20000 in
theorem ggL_law_X11_empty_wsX30 : GoodIn wsL_law wsX30 := goodIn_sub (lwB_x (k := 49) rfl) (by decide +kernel)
set_option maxRecDepth 20000 in
theorem ggL_law_X11_empty_wsX10 : GoodIn wsL_law wsX10 := goodIn_sub (lwB_x (k := 50) rfl) (by decide +kernel)
set_option maxRecDepth 20000 in
theorem ggL_law_X11_empty_wsX20 : GoodIn wsL_law wsX20 := goodIn_sub (lwB_x (k := 52) rfl) (by decide +kernel)
set_option maxRecDepth 20000 in
theorem ggL_law_X11_empty_wsX50 : GoodIn wsL_law wsX50 := goodIn_sub (lwB_x (k := 51) rfl) (by decide +kernel)
set_option maxRecDepth 20000 in
theorem ggL_law_X11_empty_wsX90 : GoodIn wsL_law wsX90 := goodIn_sub (lwB_x (k := 48) rfl) (by decide +kernel)
set_option maxRecDepth 20000 in
theorem ggL_law_X11_empty : GoodIn wsL_law wsX11_empty := goodIn_ca (goodIn_c1 ggL_law_X11_empty_c (goodIn_app (goodIn_app (goodIn_app (goodIn_app (goodIn_app (goodIn_app (goodIn_app (goodIn_app ggL_law_X11_empty_wsX11_empty_r1 (goodIn_app ggL_law_X11_empty_wsX11_empty_r2 (goodIn_app ggL_law_X11_empty_wsX11_empty_r3 (goodIn_app ggL_law_X11_empty_wsX11_empty_r4 (goodIn_app ggL_law_X11_empty_wsX11_empty_r5 (goodIn_app ggL_law_X11_empty_wsX11_empty_r6 (goodIn_app ggL_law_X11_empty_wsX11_empty_r7 (goodIn_app ggL_law_X11_empty_wsX11_empty_r8 ggL_law_X11_empty_wsX11_empty_r9)))))))) ggL_law_X11_empty_wsX70) ggL_law_X11_empty_wsX110) ggL_law_X11_empty_wsX30) ggL_law_X11_empty_wsX10) ggL_law_X11_empty_wsX20) ggL_law_X11_empty_wsX50) ggL_law_X11_empty_wsX90)) (goodIn_sub (fun _ h => List.mem_append_right _ h) (by decide +kernel))
set_option maxRecDepth 20000 in
theorem gL_law_X11_empty : GoodIn wsL_law (wsV RL 227 RX11 yX11_empty wsX11_empty) := goodIn_app (goodIn_of _ (by decide +kernel)) ggL_law_X11_empty
set_option maxRecDepth 20000 in
theorem ggL_law_X11_pays_c : GoodIn wsL_law [.code yX11_pays cX11_pays 5 (some .int)] := goodIn_rr lwB_in _ [(40, 9)] (by decide +kernel) (by decide +kernel)
set_option maxRecDepth 20000 in
theorem ggL_law_X11_pays_wsX11_pays_r1 : GoodIn wsL_law wsX11_pays_r1 := goodIn_rr lwB_in _ [(31, 16), (32, 1), (31, 21), (32, 3), (32, 4), (32, 5), (0, 5), (32, 6), (30, 6), (30, 7), (12, 13), (30, 9), (34, 21), (34, 22), (34, 23), (15, 19), (15, 20), (35, 0), (35, 1), (35, 2), (35, 3), (12, 14), (35, 4), (35, 5)] (by decide +kernel) (by decide +kernel)
set_option maxRecDepth 20000 in
theorem ggL_law_X11_pays_wsX11_pays_r2 : GoodIn wsL_law wsX11_pays_r2 := goodIn_rr lwB_in _ [(35, 6), (12, 12), (35, 7), (35, 8), (13, 7), (21, 10), (21, 11), (21, 12), (21, 13), (13, 9), (13, 11), (13, 13), (13, 15), (13, 19), (23, 17), (23, 18), (23, 19), (14, 0), (23, 20), (23, 21), (23, 22), (23, 23), (14, 22), (25, 2)] (by decide +kernel) (by decide +kernel)
set_option maxRecDepth 20000 in
theorem ggL_law_X11_pays_wsX11_pays_r3 : GoodIn wsL_law wsX11_pays_r3 := goodIn_rr lwB_in _ [(25, 3), (25, 4), (14, 3), (25, 5), (25, 6), (25, 7), (25, 8), (25, 9), (25, 10), (25, 11), (15, 2), (25, 12), (25, 13), (25, 14), (15, 3), (35, 9), (35, 10), (35, 11), (14, 9), (35, 12), (35, 13), (35, 14), (35, 15), (35, 16)] (by decide +kernel) (by decide +kernel)
set_option maxRecDepth 20000 in
theorem ggL_law_X11_pays_wsX11_pays_r4 : GoodIn wsL_law wsX11_pays_r4 := goodIn_rr lwB_in _ [(29, 4), (29, 5), (29, 6), (14, 6), (29, 7), (15, 7), (29, 8), (29, 9), (29, 10), (29, 11), (29, 12), (29, 13), (15, 8), (35, 17), (35, 18), (35, 19), (13, 18), (35, 20), (27, 1), (14, 15), (14, 16), (35, 21), (35, 22), (35, 23)] (by decide +kernel) (by decide +kernel)
set_option maxRecDepth 20000 in
theorem ggL_law_X11_pays_wsX11_pays_r5 : GoodIn wsL_law wsX11_pays_r5 := goodIn_rr lwB_in _ [(36, 0), (13, 20), (36, 1), (33, 22), (33, 23), (34, 0), (13, 21), (34, 1), (36, 2), (36, 3), (36, 4), (36, 5), (36, 6), (36, 7), (36, 8), (36, 9), (36, 10), (36, 11), (36, 12), (36, 13), (36, 14), (36, 15), (36, 16), (36, 17)] (by decide +kernel) (by decide +kernel)
set_option maxRecDepth 20000 in
theorem ggL_law_X11_pays_wsX11_pays_r6 : GoodIn wsL_law wsX11_pays_r6 := goodIn_rr lwB_in _ [(36, 18), (36, 19), (36, 20), (14, 17), (36, 21), (36, 22), (21, 21), (21, 22), (21, 23), (22, 0), (22, 1), (22, 2), (36, 23), (37, 0), (37, 1), (37, 2), (37, 3), (37, 4), (37, 5), (37, 6), (37, 7), (37, 8), (37, 9), (37, 10)] (by decide +kernel) (by decide +kernel)
set_option maxRecDepth 20000 in
theorem ggL_law_X11_pays_wsX11_pays_r7 : GoodIn wsL_law wsX11_pays_r7 := goodIn_rr lwB_in _ [(30, 17), (30, 18), (30, 19), (37, 11), (37, 12), (37, 13), (37, 14), (5, 4), (4, 11), (5, 5), (37, 15), (4, 10), (4, 12), (37, 16), (37, 17), (37, 18), (37, 19), (31, 11), (37, 20), (37, 21), (37, 22), (37, 23), (29, 19), (29, 20)] (by decide +kernel) (by decide +kernel)
set_option maxRecDepth 20000 in
theorem ggL_law_X11_pays_wsX11_pays_r8 : GoodIn wsL_law wsX11_pays_r8 := goodIn_rr lwB_in _ [(29, 21), (30, 16), (38, 0), (38, 1), (38, 2), (38, 3), (38, 4), (38, 5), (38, 6), (38, 7), (38, 8), (38, 9), (38, 10), (31, 5), (13, 22), (38, 11), (38, 12), (23, 16), (38, 13), (38, 14), (38, 15), (38, 16), (38, 17), (38, 18)] (by decide +kernel) (by decide +kernel)
set_option maxRecDepth 20000 in
theorem ggL_law_X11_pays_wsX11_pays_r9 : GoodIn wsL_law wsX11_pays_r9 := goodIn_rr lwB_in _ [(38, 19), (38, 20), (38, 21), (38, 22), (38, 23), (39, 0), (39, 1), (39, 2), (39, 3), (39, 4), (39, 5), (39, 6), (39, 7), (39, 8), (39, 9), (39, 10), (33, 13), (33, 14), (33, 15), (39, 11), (39, 12), (39, 13), (39, 14), (31, 0)] (by decide +kernel) (by decide +kernel)
set_option maxRecDepth 20000 in
theorem ggL_law_X11_pays_wsX11_pays_r10 : GoodIn wsL_law wsX11_pays_r10 := goodIn_rr lwB_in _ [(39, 15), (39, 16), (39, 17), (39, 18), (39, 19), (39, 20)] (by decide +kernel) (by decide +kernel)
set_option maxRecDepth 20000 in
theorem ggL_law_X11_pays_wsX70 : GoodIn wsL_law wsX70 := goodIn_sub (lwB_x (k := 47) rfl) (by decide +kernel)
set_option maxRecDepth 20000 in
theorem ggL_law_X11_pays_wsX10 : GoodIn wsL_law wsX10 := goodIn_sub (lwB_x (k := 50) rfl) (by decide +kernel)
set_option maxRecDepth 20000 in
theorem ggL_law_X11_pays_wsX110 : GoodIn wsL_law wsX110 := goodIn_sub (lwB_x (k := 43) rfl) (by decide +kernel)
set_option maxRecDepth 20000 in
theorem ggL_law_X11_pays_wsX30 : GoodIn wsL_law wsX30 := goodIn_sub (lwB_x (k := 49) rfl) (by decide +kernel)
set_option maxRecDepth 20000 in
theorem ggL_law_X11_pays_wsX20 : GoodIn wsL_law wsX20 := goodIn_sub (lwB_x (k := 52) rfl) (by decide +kernel)
set_option maxRecDepth 20000 in
theorem ggL_law_X11_pays_wsX50 : GoodIn wsL_law wsX50 := goodIn_sub (lwB_x (k := 51) rfl) (by decide +kernel)
set_option maxRecDepth 20000 in
theorem ggL_law_X11_pays_wsX90 : GoodIn wsL_law wsX90 := goodIn_sub (lwB_x (k := 48) rfl) (by decide +kernel)
set_option maxRecDepth 20000 in
theorem ggL_law_X11_pays : GoodIn wsL_law wsX11_pays := goodIn_ca (goodIn_ca (goodIn_c1 ggL_law_X11_pays_c (goodIn_app (goodIn_app (goodIn_app (goodIn_app (goodIn_app (goodIn_app (goodIn_app (goodIn_app ggL_law_X11_pays_wsX11_pays_r1 (goodIn_app ggL_law_X11_pays_wsX11_pays_r2 (goodIn_app ggL_law_X11_pays_wsX11_pays_r3 (goodIn_app ggL_law_X11_pays_wsX11_pays_r4 (goodIn_app ggL_law_X11_pays_wsX11_pays_r5 (goodIn_app ggL_law_X11_pays_wsX11_pays_r6 (goodIn_app ggL_law_X11_pays_wsX11_pays_r7 (goodIn_app ggL_law_X11_pays_wsX11_pays_r8 (goodIn_app ggL_law_X11_pays_wsX11_pays_r9 ggL_law_X11_pays_wsX11_pays_r10))))))))) ggL_law_X11_pays_wsX70) ggL_law_X11_pays_wsX10) ggL_law_X11_pays_wsX110) ggL_law_X11_pays_wsX30) ggL_law_X11_pays_wsX20) ggL_law_X11_pays_wsX50) ggL_law_X11_pays_wsX90)) (goodIn_sub (fun _ h => List.mem_append_right _ h) (by decide +kernel))) (goodIn_sub (fun _ h => List.mem_append_left _ (List.mem_append_left _ (List.mem_append_right _ h))) (by decide +kernel))
set_option maxRecDepth 20000 in
theorem gL_law_X11_pays : GoodIn wsL_law (wsV RL 230 RX11 yX11_pays wsX11_pays) := goodIn_app (goodIn_of _ (by decide +kernel)) ggL_law_X11_pays
set_option maxRecDepth 20000 in
theorem ggL_law_X11_advise_c : GoodIn wsL_law [.code yX11_advise cX11_advise 7 (some .int)] := goodIn_rr lwB_in _ [(40, 13)] (by decide +kernel) (by decide +kernel)
set_option maxRecDepth 20000 in
theorem ggL_law_X11_advise_wsX11_advise_r1 : GoodIn wsL_law wsX11_advise_r1 := goodIn_rr lwB_in _ [(31, 16), (31, 17), (31, 21), (32, 3), (32, 4), (32, 5), (0, 5), (32, 6), (30, 6), (30, 7), (12, 13), (30, 9), (34, 21), (34, 22), (34, 23), (15, 19), (15, 20), (35, 0), (35, 1), (35, 2), (35, 3), (12, 14), (35, 4), (35, 5)] (by decide +kernel) (by decide +kernel)
set_option maxRecDepth 20000 in
theorem ggL_law_X11_advise_wsX11_advise_r2 : GoodIn wsL_law wsX11_advise_r2 := goodIn_rr lwB_in _ [(35, 6), (12, 12), (35, 7), (35, 8), (13, 7), (21, 10), (21, 11), (21, 12), (21, 13), (13, 9), (13, 11), (13, 13), (13, 15), (13, 19), (23, 17), (23, 18), (23, 19), (14, 0), (23, 20), (23, 21), (23, 22), (23, 23), (14, 22), (25, 2)] (by decide +kernel) (by decide +kernel)
set_option maxRecDepth 20000 in
theorem ggL_law_X11_advise_wsX11_advise_r3 : GoodIn wsL_law wsX11_advise_r3 := goodIn_rr lwB_in _ [(25, 3), (25, 4), (14, 3), (25, 5), (25, 6), (25, 7), (25, 8), (25, 9), (25, 10), (25, 11), (15, 2), (25, 12), (25, 13), (25, 14), (15, 3), (35, 9), (35, 10), (35, 11), (14, 9), (35, 12), (35, 13), (35, 14), (35, 15), (35, 16)] (by decide +kernel) (by decide +kernel)
set_option maxRecDepth 20000 in
theorem ggL_law_X11_advise_wsX11_advise_r4 : GoodIn wsL_law wsX11_advise_r4 := goodIn_rr lwB_in _ [(29, 4), (29, 5), (29, 6), (14, 6), (29, 7), (15, 7), (29, 8), (29, 9), (29, 10), (29, 11), (29, 12), (29, 13), (15, 8), (35, 17), (35, 18), (35, 19), (13, 18), (35, 20), (27, 1), (14, 15), (14, 16), (35, 21), (35, 22), (35, 23)] (by decide +kernel) (by decide +kernel)
set_option maxRecDepth 20000 in
theorem ggL_law_X11_advise_wsX11_advise_r5 : GoodIn wsL_law wsX11_advise_r5 := goodIn_rr lwB_in _ [(36, 0), (13, 20), (36, 1), (33, 22), (33, 23), (34, 0), (13, 21), (34, 1), (36, 2), (36, 3), (36, 4), (36, 5), (36, 6), (36, 7), (36, 8), (36, 9), (36, 10), (36, 11), (36, 12), (36, 13), (36, 14), (36, 15), (36, 16), (36, 17)] (by decide +kernel) (by decide +kernel)
set_option maxRecDepth 20000 in
theorem ggL_law_X11_advise_wsX11_advise_r6 : GoodIn wsL_law wsX11_advise_r6 := goodIn_rr lwB_in _ [(36, 18), (36, 19), (36, 20), (14, 17), (36, 21), (36, 22), (21, 21), (21, 22), (21, 23), (22, 0), (22, 1), (22, 2), (36, 23), (37, 0), (37, 1), (37, 2), (37, 3), (37, 4), (37, 5), (37, 6), (37, 7), (37, 8), (37, 9), (37, 10)] (by decide +kernel) (by decide +kernel)
set_option maxRecDepth 20000 in
theorem ggL_law_X11_advise_wsX11_advise_r7 : GoodIn wsL_law wsX11_advise_r7 := goodIn_rr lwB_in _ [(30, 17), (30, 18), (30, 19), (37, 11), (37, 12), (37, 13), (37, 14), (5, 4), (4, 11), (5, 5), (37, 15), (4, 10), (4, 12), (37, 16), (37, 17), (37, 18), (37, 19), (31, 11), (37, 20), (37, 21), (37, 22), (37, 23), (29, 19), (29, 20)] (by decide +kernel) (by decide +kernel)
set_option maxRecDepth 20000 in
theorem ggL_law_X11_advise_wsX11_advise_r8 : GoodIn wsL_law wsX11_advise_r8 := goodIn_rr lwB_in _ [(29, 21), (30, 16), (38, 0), (38, 1), (38, 2), (38, 3), (38, 4), (38, 5), (38, 6), (38, 7), (38, 8), (38, 9), (38, 10), (31, 5), (13, 22), (38, 11), (38, 12), (23, 16), (38, 13), (38, 14), (38, 15), (38, 16), (38, 17), (38, 18)] (by decide +kernel) (by decide +kernel)
set_option maxRecDepth 20000 in
theorem ggL_law_X11_advise_wsX11_advise_r9 : GoodIn wsL_law wsX11_advise_r9 := goodIn_rr lwB_in _ [(38, 19), (38, 20), (38, 21), (38, 22), (38, 23), (39, 0), (39, 1), (39, 2), (39, 3), (39, 4), (39, 5), (39, 6), (39, 7), (39, 8), (39, 9), (39, 10), (33, 13), (33, 14), (33, 15), (39, 11), (39, 12), (39, 13), (39, 14), (31, 0)] (by decide +kernel) (by decide +kernel)
set_option maxRecDepth 20000 in
theorem ggL_law_X11_advise_wsX11_advise_r10 : GoodIn wsL_law wsX11_advise_r10 := goodIn_rr lwB_in _ [(39, 15), (39, 16), (39, 17), (39, 18), (39, 19), (39, 20)] (by decide +kernel) (by decide +kernel)
set_option maxRecDepth 20000 in
theorem ggL_law_X11_advise_wsX70 : GoodIn wsL_law wsX70 := goodIn_sub (lwB_x (k := 47) rfl) (by decide +kernel)
set_option maxRecDepth 20000 in
theorem ggL_law_X11_advise_wsX10 : GoodIn wsL_law wsX10 := goodIn_sub (lwB_x (k := 50) rfl) (by decide +kernel)
set_option maxRecDepth 20000 in
theorem ggL_law_X11_advise_wsX110 : GoodIn wsL_law wsX110 := goodIn_sub (lwB_x (k := 43) rfl) (by decide +kernel)
set_option maxRecDepth 20000 in
theorem ggL_law_X11_advise_wsX30 : GoodIn wsL_law wsX30 := goodIn_sub (lwB_x (k := 49) rfl) (by decide +kernel)
set_option maxRecDepth 20000 in
theorem ggL_law_X11_advise_wsX20 : GoodIn wsL_law wsX20 := goodIn_sub (lwB_x (k := 52) rfl) (by decide +kernel)
set_option maxRecDepth 20000 in
theorem ggL_law_X11_advise_wsX50 : GoodIn wsL_law wsX50 := goodIn_sub (lwB_x (k := 51) rfl) (by decide +kernel)
set_option maxRecDepth 20000 in
theorem ggL_law_X11_advise_wsX90 : GoodIn wsL_law wsX90 := goodIn_sub (lwB_x (k := 48) rfl) (by decide +kernel)
set_option maxRecDepth 20000 in
theorem ggL_law_X11_advise : GoodIn wsL_law wsX11_advise := goodIn_ca (goodIn_ca (goodIn_c1 ggL_law_X11_advise_c (goodIn_app (goodIn_app (goodIn_app (goodIn_app (goodIn_app (goodIn_app (goodIn_app (goodIn_app ggL_law_X11_advise_wsX11_advise_r1 (goodIn_app ggL_law_X11_advise_wsX11_advise_r2 (goodIn_app ggL_law_X11_advise_wsX11_advise_r3 (goodIn_app ggL_law_X11_advise_wsX11_advise_r4 (goodIn_app ggL_law_X11_advise_wsX11_advise_r5 (goodIn_app ggL_law_X11_advise_wsX11_advise_r6 (goodIn_app ggL_law_X11_advise_wsX11_advise_r7 (goodIn_app ggL_law_X11_advise_wsX11_advise_r8 (goodIn_app ggL_law_X11_advise_wsX11_advise_r9 ggL_law_X11_advise_wsX11_advise_r10))))))))) ggL_law_X11_advise_wsX70) ggL_law_X11_advise_wsX10) ggL_law_X11_advise_wsX110) ggL_law_X11_advise_wsX30) ggL_law_X11_advise_wsX20) ggL_law_X11_advise_wsX50) ggL_law_X11_advise_wsX90)) (goodIn_sub (fun _ h => List.mem_append_right _ h) (by decide +kernel))) (goodIn_sub (fun _ h => List.mem_append_left _ (List.mem_append_left _ (List.mem_append_right _ h))) (by decide +kernel))
set_option maxRecDepth 20000 in
theorem gL_law_X11_advise : GoodIn wsL_law (wsV RL 233 RX11 yX11_advise wsX11_advise) := goodIn_app (goodIn_of _ (by decide +kernel)) ggL_law_X11_advise
set_option maxRecDepth 20000 in
theorem ggL_law_X11_lot : GoodIn wsL_law wsX11_lot := goodIn_ca (goodIn_rr lwB_in _ [(33, 19), (30, 6), (30, 7), (12, 13), (30, 9), (33, 20), (33, 21), (33, 22), (33, 23), (12, 12), (34, 0), (13, 7), (21, 11), (13, 21), (34, 1), (13, 20), (43, 0), (43, 1), (43, 2), (43, 3), (47, 0), (47, 1), (47, 2), (47, 3), (47, 4), (47, 5), (47, 6), (47, 7), (47, 8), (47, 9), (47, 10), (47, 11), (47, 12), (47, 13), (47, 14), (47, 15), (47, 16)] (by decide +kernel) (by decide +kernel)) (goodIn_sub (fun _ h => List.mem_append_right _ h) (by decide +kernel))
set_option maxRecDepth 20000 in
theorem gL_law_X11_lot : GoodIn wsL_law (wsV RL 217 RX11 yX11_lot wsX11_lot) := goodIn_app (goodIn_of _ (by decide +kernel)) ggL_law_X11_lot
set_option maxRecDepth 20000 in
theorem ggL_law_X11_cheat : GoodIn wsL_law wsX11_cheat := goodIn_ca (goodIn_2 24 (goodIn_rr lwB_in _ [(32, 10), (12, 13), (31, 16), (32, 1), (32, 3), (32, 4), (32, 5), (0, 5), (32, 6), (30, 6), (30, 7), (30, 9), (31, 7), (31, 8), (31, 9), (12, 12), (31, 10), (21, 11), (13, 11), (31, 11), (43, 0), (43, 1), (43, 2), (43, 3)] (by decide +kernel) (by decide +kernel)) (goodIn_2 24 (goodIn_rr lwB_in _ [(47, 0), (47, 1), (47, 2), (47, 3), (47, 4), (47, 5), (47, 6), (47, 7), (47, 8), (47, 9), (47, 10), (47, 11), (47, 12), (47, 13), (47, 14), (47, 15), (47, 16), (50, 0), (50, 1), (50, 2), (50, 3), (50, 4), (50, 5), (50, 6)] (by decide +kernel) (by decide +kernel)) (goodIn_rr lwB_in _ [(50, 7), (50, 8), (50, 9), (50, 10)] (by decide +kernel) (by decide +kernel)))) (goodIn_sub (fun _ h => List.mem_append_right _ h) (by decide +kernel))
set_option maxRecDepth 20000 in
theorem gL_law_X11_cheat : GoodIn wsL_law (wsV RL 208 RX11 yX11_cheat wsX11_cheat) := goodIn_app (goodIn_of _ (by decide +kernel)) ggL_law_X11_cheat
set_option maxRecDepth 20000 in
theorem ggL_law_L_cell : GoodIn wsL_law wsL_cell := goodIn_rr lwB_in _ [(2, 21), (2, 22)] (by decide +kernel) (by decide +kernel)
set_option maxRecDepth 20000 in
theorem gL_law_L_cell : GoodIn wsL_law (va_wsS RL 118 yL_cell wsL_cell) := goodIn_app (goodIn_of _ (by decide +kernel)) ggL_law_L_cell
set_option maxRecDepth 20000 in
theorem ggL_law_J4_init_da8c8 : GoodIn wsL_law wsJ4_init_da8c8 := goodIn_rr lwB_in _ [(0, 14), (0, 15), (0, 16), (0, 17), (0, 18), (0, 19), (0, 20), (0, 21), (0, 22), (0, 23), (1, 0), (1, 1), (1, 2), (1, 3), (1, 4), (1, 5), (1, 6), (1, 7), (1, 8), (1, 9), (42, 0), (42, 1), (42, 2), (42, 3)] (by decide +kernel) (by decide +kernel)
set_option maxRecDepth 20000 in
theorem gL_law_J4_init_da8c8 : GoodIn wsL_law (wsJ4_init_da8c8) := ggL_law_J4_init_da8c8
set_option maxRecDepth 20000 in
theorem ggL_law_L_shore_c : GoodIn wsL_law [.code yL_shore cL_shore 9 (some (.object "TideLotsLaw$Sim"))] := goodIn_sub (fun w hw => by
  rw [List.mem_singleton.mp hw]
  exact lwB_x (ws := wsL_law0_r2) (k := 1) rfl _ (List.mem_of_getElem? (i := 13) rfl)) rfl
set_option maxRecDepth 20000 in
theorem ggL_law_L_shore_wsL_shore_r1 : GoodIn wsL_law wsL_shore_r1 := goodIn_rr lwB_in _ [(1, 14), (1, 15), (1, 16), (1, 17), (1, 18), (1, 19), (0, 7), (1, 20), (0, 10), (0, 11), (1, 21), (1, 22), (0, 9), (1, 23), (2, 0), (2, 1), (0, 20), (0, 21), (2, 2), (2, 3), (2, 4), (2, 5), (2, 6), (2, 7)] (by decide +kernel) (by decide +kernel)
set_option maxRecDepth 20000 in
theorem ggL_law_L_shore_wsL_shore_r2 : GoodIn wsL_law wsL_shore_r2 := goodIn_rr lwB_in _ [(2, 8), (2, 9), (2, 10), (2, 11), (2, 12), (2, 13), (2, 14), (2, 15), (0, 8), (2, 16), (2, 17), (2, 18), (2, 19), (2, 20), (1, 12), (2, 21), (2, 22), (2, 23), (3, 0), (3, 1), (3, 2), (3, 3), (3, 4), (3, 5)] (by decide +kernel) (by decide +kernel)
set_option maxRecDepth 20000 in
theorem ggL_law_L_shore_wsL_shore_r3 : GoodIn wsL_law wsL_shore_r3 := goodIn_rr lwB_in _ [(0, 2), (3, 6), (3, 7), (3, 8), (3, 9), (3, 10), (0, 17), (3, 11), (3, 12), (3, 13), (3, 14), (3, 15), (3, 16), (3, 17), (1, 0), (3, 18), (3, 19), (3, 20), (3, 21), (3, 22), (1, 1), (3, 23), (4, 0), (4, 1)] (by decide +kernel) (by decide +kernel)
set_option maxRecDepth 20000 in
theorem ggL_law_L_shore_wsL_shore_r4 : GoodIn wsL_law wsL_shore_r4 := goodIn_rr lwB_in _ [(4, 2), (4, 3), (4, 4), (4, 5), (4, 6), (4, 7), (4, 8), (4, 9), (4, 10), (4, 11), (4, 12), (4, 13), (4, 14), (4, 15), (4, 16), (4, 17), (4, 18), (4, 19), (4, 20), (4, 21), (4, 22), (4, 23), (5, 0), (5, 1)] (by decide +kernel) (by decide +kernel)
set_option maxRecDepth 20000 in
theorem ggL_law_L_shore_wsL_shore_r5 : GoodIn wsL_law wsL_shore_r5 := goodIn_rr lwB_in _ [(5, 2), (0, 23), (5, 3), (5, 4), (5, 5), (5, 6), (5, 7), (5, 8), (5, 9), (5, 10), (5, 11), (5, 12), (5, 13), (5, 14), (0, 22), (5, 15), (5, 16), (1, 4), (5, 17), (5, 18), (5, 19), (5, 20), (5, 21), (5, 22)] (by decide +kernel) (by decide +kernel)
set_option maxRecDepth 20000 in
theorem ggL_law_L_shore_wsL_shore_r6 : GoodIn wsL_law wsL_shore_r6 := goodIn_rr lwB_in _ [(5, 23), (6, 0), (6, 1), (6, 2), (6, 3), (6, 4), (6, 5), (6, 6), (6, 7), (6, 8), (6, 9), (6, 10), (6, 11), (6, 12), (6, 13), (6, 14), (6, 15), (6, 16), (6, 17), (6, 18), (6, 19), (6, 20), (6, 21), (6, 22)] (by decide +kernel) (by decide +kernel)
set_option maxRecDepth 20000 in
theorem ggL_law_L_shore_wsL_shore_r7 : GoodIn wsL_law wsL_shore_r7 := goodIn_rr lwB_in _ [(6, 23), (7, 0), (7, 1), (7, 2), (7, 3), (7, 4), (7, 5), (7, 6), (7, 7), (7, 8), (7, 9), (7, 10), (7, 11), (7, 12), (7, 13), (7, 14), (7, 15), (7, 16), (7, 17), (1, 2), (1, 3), (1, 5), (1, 6), (1, 7)] (by decide +kernel) (by decide +kernel)
set_option maxRecDepth 20000 in
theorem ggL_law_L_shore_wsL_shore_r8 : GoodIn wsL_law wsL_shore_r8 := goodIn_rr lwB_in _ [(1, 8), (1, 9), (7, 18), (7, 19), (7, 20), (7, 21), (7, 22), (7, 23), (8, 0), (8, 1), (8, 2), (8, 3), (8, 4), (8, 5), (8, 6), (8, 7), (8, 8), (8, 9), (8, 10), (8, 11), (8, 12), (8, 13), (8, 14), (8, 15)] (by decide +kernel) (by decide +kernel)
set_option maxRecDepth 20000 in
theorem ggL_law_L_shore_wsL_shore_r9 : GoodIn wsL_law wsL_shore_r9 := goodIn_rr lwB_in _ [(8, 16), (8, 17), (8, 18), (8, 19), (8, 20), (8, 21), (8, 22), (8, 23), (9, 0), (9, 1), (9, 2), (9, 3), (9, 4), (9, 5), (9, 6), (9, 7), (9, 8), (9, 9), (9, 10), (9, 11), (9, 12), (9, 13), (9, 14), (9, 15)] (by decide +kernel) (by decide +kernel)
set_option maxRecDepth 20000 in
theorem ggL_law_L_shore_wsL_shore_r10 : GoodIn wsL_law wsL_shore_r10 := goodIn_rr lwB_in _ [(9, 16), (9, 17), (9, 18), (9, 19), (0, 0), (0, 1), (0, 12), (0, 13), (0, 14), (0, 15), (0, 16), (0, 18), (0, 19), (9, 20), (9, 21), (9, 22), (9, 23), (10, 0), (10, 1), (10, 2), (10, 3), (10, 4), (10, 5), (10, 6)] (by decide +kernel) (by decide +kernel)
set_option maxRecDepth 20000 in
theorem ggL_law_L_shore_wsL_shore_r11 : GoodIn wsL_law wsL_shore_r11 := goodIn_rr lwB_in _ [(10, 7), (10, 8), (10, 9), (10, 10), (10, 11), (10, 12), (10, 13), (10, 14), (10, 15), (10, 16), (10, 17), (10, 18), (10, 19), (10, 20), (10, 21), (10, 22), (10, 23), (11, 0), (11, 1), (11, 2), (11, 3), (11, 4), (11, 5), (11, 6)] (by decide +kernel) (by decide +kernel)
set_option maxRecDepth 20000 in
theorem ggL_law_L_shore_wsL_shore_r12 : GoodIn wsL_law wsL_shore_r12 := goodIn_rr lwB_in _ [(11, 7), (11, 8), (11, 9), (11, 10), (11, 11), (11, 12), (11, 13), (11, 14), (11, 15), (11, 16), (11, 17), (11, 18), (11, 19), (11, 20), (11, 21), (11, 22), (11, 23), (12, 0), (12, 1)] (by decide +kernel) (by decide +kernel)
set_option maxRecDepth 20000 in
theorem ggL_law_L_shore_wsX120 : GoodIn wsL_law wsX120 := goodIn_sub (lwB_x (k := 44) rfl) (by decide +kernel)
