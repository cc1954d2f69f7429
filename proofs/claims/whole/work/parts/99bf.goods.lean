theorem gq_X14_advise_h : GoodIn wsL_law [Cond.code yX14_advise cX14_advise 7 (some .int)] := goodIn_rr lwB_in _ [(51, 18)] (by decide +kernel) (by decide +kernel)
set_option maxRecDepth 20000 in
theorem gq_X14_advise_r1 : GoodIn wsL_law wsX14_advise_r1 := goodIn_rr lwB_in _ [(7, 19), (4, 15), (36, 23), (37, 0), (37, 1), (0, 5), (37, 2), (4, 10), (8, 19), (8, 20), (8, 21), (7, 21), (7, 22), (7, 23), (8, 0), (50, 17), (50, 18), (50, 19), (50, 20), (4, 16), (50, 2), (50, 3), (50, 4), (4, 14)] (by decide +kernel) (by decide +kernel)
set_option maxRecDepth 20000 in
theorem gq_X14_advise_r2 : GoodIn wsL_law wsX14_advise_r2 := goodIn_rr lwB_in _ [(50, 5), (47, 3), (5, 16), (5, 17), (5, 18), (5, 19), (5, 20), (5, 21), (5, 22), (5, 23), (6, 0), (6, 1), (6, 2), (6, 3), (6, 4), (6, 14), (6, 15), (6, 16), (6, 17), (6, 18), (6, 19), (6, 20), (6, 21), (46, 23)] (by decide +kernel) (by decide +kernel)
set_option maxRecDepth 20000 in
theorem gq_X14_advise_r3 : GoodIn wsL_law wsX14_advise_r3 := goodIn_rr lwB_in _ [(47, 0), (47, 1), (47, 2), (5, 14), (6, 5), (47, 4), (40, 9), (40, 10), (40, 11), (6, 6), (40, 12), (47, 5), (47, 6), (47, 7), (47, 8), (47, 9), (47, 10), (47, 11), (47, 12), (47, 13), (47, 14), (47, 15), (47, 16), (6, 8)] (by decide +kernel) (by decide +kernel)
set_option maxRecDepth 20000 in
theorem gq_X14_advise_r4 : GoodIn wsL_law wsX14_advise_r4 := goodIn_rr lwB_in _ [(47, 17), (47, 18), (47, 19), (47, 20), (47, 21), (47, 22), (47, 23), (35, 14), (35, 15), (35, 16), (48, 0), (48, 1), (28, 21), (17, 7), (14, 7), (17, 8), (48, 2), (14, 6), (14, 8), (48, 3), (48, 4), (48, 5), (48, 6), (48, 7)] (by decide +kernel) (by decide +kernel)
set_option maxRecDepth 20000 in
theorem gq_X14_advise_r5 : GoodIn wsL_law wsX14_advise_r5 := goodIn_rr lwB_in _ [(48, 8), (48, 9), (48, 10), (6, 7), (42, 6), (48, 11), (48, 12), (48, 13), (48, 14), (48, 15), (48, 16), (48, 17), (48, 18)] (by decide +kernel) (by decide +kernel)
theorem ggL_law_X14_advise : GoodIn wsL_law wsX14_advise := goodIn_cons gq_X14_advise_h (goodIn_app (goodIn_app (goodIn_app (goodIn_app gq_X14_advise_r1 (goodIn_app gq_X14_advise_r2 (goodIn_app gq_X14_advise_r3 (goodIn_app gq_X14_advise_r4 gq_X14_advise_r5)))) gq_X140) gq_X120) gq_X130)
set_option maxRecDepth 20000 in
theorem gL_law_X14_advise : GoodIn wsL_law (wsV RL 140 RX14 yX14_advise wsX14_advise) := goodIn_app (goodIn_rr lwB_in _ [(51, 15), (51, 16), (51, 17), (0, 5)] (by decide +kernel) (by decide +kernel)) ggL_law_X14_advise
set_option maxRecDepth 20000 in
theorem ggL_law_X11_mean : GoodIn wsL_law wsX11_mean := goodIn_rr lwB_in _ [(51, 22), (0, 20), (32, 17), (33, 4), (33, 5), (33, 6), (0, 19), (33, 7), (15, 1), (1, 19), (33, 8), (53, 0), (53, 1), (53, 2), (53, 3), (56, 0), (56, 1), (56, 2), (56, 3), (56, 4), (56, 5), (56, 6), (56, 7), (56, 8), (56, 9), (56, 10), (56, 11), (56, 12), (56, 13), (56, 14), (56, 15), (56, 16), (59, 0), (59, 1), (59, 2), (59, 3), (59, 4), (59, 5), (59, 6), (59, 7), (59, 8), (59, 9), (59, 10)] (by decide +kernel) (by decide +kernel)
set_option maxRecDepth 20000 in
theorem gL_law_X11_mean : GoodIn wsL_law (wsV RL 141 RX11 yX11_mean wsX11_mean) := goodIn_app (goodIn_rr lwB_in _ [(51, 19), (51, 20), (51, 21), (0, 2)] (by decide +kernel) (by decide +kernel)) ggL_law_X11_mean
set_option maxRecDepth 20000 in
theorem ggL_law_X14_mean : GoodIn wsL_law wsX14_mean := goodIn_rr lwB_in _ [(52, 2), (7, 19), (4, 10), (4, 15), (34, 4), (34, 5), (34, 6), (4, 14), (34, 7), (54, 0), (54, 1), (54, 2), (54, 3), (54, 4), (54, 5), (54, 6), (54, 7), (54, 8), (54, 9), (54, 10), (54, 11), (54, 12), (54, 13), (54, 14), (62, 0), (62, 1), (62, 2), (62, 3), (62, 4), (62, 5), (62, 6), (62, 7), (62, 8), (62, 9), (62, 10), (62, 11), (62, 12), (62, 13), (62, 14), (62, 15), (62, 16), (62, 17), (62, 18), (62, 19), (62, 20), (62, 21), (62, 22), (62, 23), (62, 24), (63, 0), (63, 1), (63, 2), (63, 3), (63, 4), (63, 5), (63, 6), (63, 7), (63, 8), (63, 9), (63, 10), (63, 11), (63, 12), (63, 13), (63, 14), (63, 15), (63, 16), (63, 17), (63, 18)] (by decide +kernel) (by decide +kernel)
set_option maxRecDepth 20000 in
theorem gL_law_X14_mean : GoodIn wsL_law (wsV RL 145 RX14 yX14_mean wsX14_mean) := goodIn_app (goodIn_rr lwB_in _ [(51, 23), (52, 0), (52, 1), (0, 5)] (by decide +kernel) (by decide +kernel)) ggL_law_X14_mean
theorem gq_X11_digest_h : GoodIn wsL_law [Cond.code yX11_digest cX11_digest 5 (some .long)] := goodIn_rr lwB_in _ [(52, 6)] (by decide +kernel) (by decide +kernel)
set_option maxRecDepth 20000 in
theorem gq_X11_digest_r1 : GoodIn wsL_law wsX11_digest_r1 := goodIn_rr lwB_in _ [(52, 7), (52, 8), (0, 20), (32, 16), (32, 17), (32, 19), (39, 18), (52, 9), (32, 11), (32, 12), (0, 2), (32, 13), (32, 14), (32, 15), (9, 6), (32, 18), (0, 16), (7, 9), (32, 20), (32, 21), (32, 22), (0, 19), (32, 23), (15, 0)] (by decide +kernel) (by decide +kernel)
set_option maxRecDepth 20000 in
theorem gq_X11_digest_r2 : GoodIn wsL_law wsX11_digest_r2 := goodIn_rr lwB_in _ [(1, 17), (33, 0), (33, 1), (33, 2), (2, 8), (33, 3), (3, 6), (33, 4), (33, 5), (33, 6), (33, 7), (15, 1), (1, 19), (33, 8), (33, 9), (33, 10), (33, 11), (33, 12), (33, 13), (33, 14), (33, 15), (33, 16), (33, 17), (33, 18)] (by decide +kernel) (by decide +kernel)
set_option maxRecDepth 20000 in
theorem gq_X11_digest_r3 : GoodIn wsL_law wsX11_digest_r3 := goodIn_rr lwB_in _ [(33, 19), (52, 10), (34, 12), (34, 13), (34, 14), (34, 15), (34, 16), (34, 17), (34, 18), (34, 19), (34, 20), (34, 21), (34, 22), (34, 23), (35, 0), (52, 11), (40, 17), (40, 18), (40, 19), (36, 4), (40, 20), (36, 15), (36, 16), (36, 17)] (by decide +kernel) (by decide +kernel)
set_option maxRecDepth 20000 in
theorem gq_X11_digest_r4 : GoodIn wsL_law wsX11_digest_r4 := goodIn_rr lwB_in _ [(36, 18), (52, 12), (36, 1), (36, 2), (36, 3), (36, 5), (36, 6), (36, 7), (36, 8), (36, 9), (36, 10), (36, 11), (36, 12), (36, 13), (36, 14), (52, 13), (37, 15), (37, 16), (37, 17), (37, 18), (37, 19), (37, 20), (37, 21), (37, 22)] (by decide +kernel) (by decide +kernel)
set_option maxRecDepth 20000 in
theorem gq_X11_digest_r5 : GoodIn wsL_law wsX11_digest_r5 := goodIn_rr lwB_in _ [(37, 23), (38, 0), (38, 1), (38, 2), (38, 3), (2, 14), (38, 4), (3, 15), (39, 19), (39, 20), (39, 21), (39, 22), (1, 15), (2, 5), (39, 23), (2, 4)] (by decide +kernel) (by decide +kernel)
theorem ggL_law_X11_digest : GoodIn wsL_law wsX11_digest := goodIn_cons gq_X11_digest_h (goodIn_app (goodIn_app (goodIn_app (goodIn_app (goodIn_app (goodIn_app (goodIn_app (goodIn_app gq_X11_digest_r1 (goodIn_app gq_X11_digest_r2 (goodIn_app gq_X11_digest_r3 (goodIn_app gq_X11_digest_r4 gq_X11_digest_r5)))) gq_X110) gq_X70) gq_X100) gq_X30) gq_X10) gq_X50) gq_v2)
set_option maxRecDepth 20000 in
theorem gL_law_X11_digest : GoodIn wsL_law (wsV RL 146 RX11 yX11_digest wsX11_digest) := goodIn_app (goodIn_rr lwB_in _ [(52, 3), (52, 4), (52, 5), (0, 2)] (by decide +kernel) (by decide +kernel)) ggL_law_X11_digest
theorem gq_X14_digest_h : GoodIn wsL_law [Cond.code yX14_digest cX14_digest 5 (some .long)] := goodIn_rr lwB_in _ [(52, 17)] (by decide +kernel) (by decide +kernel)
set_option maxRecDepth 20000 in
theorem gq_X14_digest_r1 : GoodIn wsL_law wsX14_digest_r1 := goodIn_rr lwB_in _ [(7, 19), (52, 18), (52, 19), (4, 10), (4, 15), (34, 0), (34, 1), (34, 2), (0, 5), (34, 3), (1, 7), (7, 20), (34, 4), (34, 5), (34, 6), (4, 14), (34, 7), (35, 9), (35, 10), (35, 11), (35, 12), (35, 13), (35, 14), (35, 15)] (by decide +kernel) (by decide +kernel)
set_option maxRecDepth 20000 in
theorem gq_X14_digest_r2 : GoodIn wsL_law wsX14_digest_r2 := goodIn_rr lwB_in _ [(35, 16), (5, 17), (35, 17), (35, 18), (35, 19), (35, 20), (37, 3), (37, 4), (37, 5), (37, 6), (37, 7), (37, 8), (37, 9), (37, 10), (38, 9), (38, 10), (38, 11), (38, 12), (40, 4), (40, 5), (40, 6), (40, 7), (4, 16), (40, 8)] (by decide +kernel) (by decide +kernel)
set_option maxRecDepth 20000 in
theorem gq_X14_digest_r3 : GoodIn wsL_law wsX14_digest_r3 := goodIn_rr lwB_in _ [(40, 9), (40, 10), (40, 11), (5, 14), (6, 6), (5, 16), (40, 12), (6, 5), (6, 18), (6, 19), (6, 20), (6, 21)] (by decide +kernel) (by decide +kernel)
theorem ggL_law_X14_digest : GoodIn wsL_law wsX14_digest := goodIn_cons gq_X14_digest_h (goodIn_app (goodIn_app (goodIn_app (goodIn_app gq_X14_digest_r1 (goodIn_app gq_X14_digest_r2 gq_X14_digest_r3)) gq_X140) gq_X130) gq_X120)
set_option maxRecDepth 20000 in
theorem gL_law_X14_digest : GoodIn wsL_law (wsV RL 150 RX14 yX14_digest wsX14_digest) := goodIn_app (goodIn_rr lwB_in _ [(52, 14), (52, 15), (52, 16), (0, 5)] (by decide +kernel) (by decide +kernel)) ggL_law_X14_digest
