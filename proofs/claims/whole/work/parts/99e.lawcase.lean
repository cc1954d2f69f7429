/-! ### the law's cases, one by one (written by gen99e.py) -/
theorem LIv_T {Z : Nat → Nat} {x mm i : Nat} {M : gMem} (S : LIv Z x mm i M) : mT M x = 10 ∧ mT M mm = 13 ∧ mm + 60 ≤ mN M ∧ mT M (mm + 59) = 21 ∧ mL M (mm + 59) = 1 := by
  obtain ⟨o, o', t, n, kb, T, S, -⟩ := S
  exact ⟨S.2.1.1.1, S.2.2.1.1.1.1, S.1.2.1, S.1.2.2.1, S.1.2.2.2⟩
theorem good2 {idx : Nat} {y : MethodName} {ws : List Cond} {cw cl : Cond} (h : GoodIn wsL_law (va_wsS RL idx y ws)) (h1 : cw ∈ wsL_xw) (h2 : cl ∈ wsL_xw) (g1 : goodWord cw = true) (g2 : goodWord cl = true) : GoodIn wsLL (va_wsS RL idx y (cw :: cl :: ws)) := by
  have hM := gMono h
  unfold va_wsS at hM ⊢
  intro w hw
  rcases List.mem_append.mp hw with h0 | h0
  · exact hM w (List.mem_append_left _ h0)
  · rcases List.mem_cons.mp h0 with rfl | h0
    · exact ⟨List.mem_append_right _ h1, good_of_word g1⟩
    · rcases List.mem_cons.mp h0 with rfl | h0
      · exact ⟨List.mem_append_right _ h2, good_of_word g2⟩
      · exact hM w (List.mem_append_right _ h0)
section GLAW3
variable {p : Program} {l : Launch} {e : Env} {s : State} {m : MethodId} {below : List Frame} {meth : Method} {c : Code} {D : va_G} {cy : Nat → ClassId} {B : Nat} {H0 : Heap} {Z : Nat → Nat} {k n : Nat} {Q : State → Prop} {M : gMem} {b x mm i j L : Nat} {xs : Nat → Int32}
abbrev bz (w : Int32) : Int32 := if w = 0 then 0 else 1
theorem bz_01 {w : Int32} : bz w = 0 ∨ bz w = 1 := by
  unfold bz
  by_cases h : w = 0
  · rw [if_pos h]; exact .inl rfl
  · rw [if_neg h]; exact .inr rfl
theorem law_bool {pc : Nat} {w : Int32} {lv : List (Nat × gV)} {st : List gV} (X : gXL p s m b meth c D cy B Z H0) (d0 : decode cL_law pc = .ok (.ifCond .eq 7, 3)) (d1 : decode cL_law (pc + 3) = .ok (.iconst 1, 1)) (d2 : decode cL_law (pc + 4) = .ok (.goto 4, 3)) (d3 : decode cL_law (pc + 7) = .ok (.iconst 0, 1)) (kk : gGL p l e s m b below meth c D cy B H0 k n Q (pc + 8) lv (vI (bz w) :: st) M) : gGL p l e s m b below meth c D cy B H0 k n Q pc lv (vI w :: st) M := by
  refine g_if_eq (tgt := pc + 7) X d0 (by omega) (fun h => ?_) (fun h => ?_)
  · rw [show bz w = 0 from if_pos h] at kk
    exact g_iconst (v := (0 : Int32)) X d3 (by decide) kk
  · rw [show bz w = 1 from if_neg h] at kk
    exact g_iconst (v := (1 : Int32)) X d1 (by decide) (g_goto (tgt := pc + 8) X d2 (by omega) kk)

set_option maxRecDepth 20000 in
theorem law_c_feed (hlx : l.stackTraces = false) (hH : H0.size = B) (X : gXL p s m b meth c D cy B Z H0) (hX : va_X b L xs s H0) (hb : b < B) (hL : L ≤ 3072) (hj : j + 5 < L) (S : LIv Z x mm i M) (hi : i ≤ 600) (hf : k + 160 ≤ 601024 ∧ n + 1600 ≤ 7293034) (kk : ∀ M', LIv Z x mm (i + 1) M' → gGL p l e s m b below meth c D cy B H0 (k + 160) (n + 1600) Q 1290 (lLv b x mm j) [] M') : gGL p l e s m b below meth c D cy B H0 k n Q 140 (lLv b x mm j) [] M := by
  obtain ⟨T1, T2, T3, -, -⟩ := LIv_T S
  refine g_aload_n (x := some x) X dL_law_140 rfl rfl ?_
  refine law_arg (i := j) (j := 1) X hX hb hL (by omega) rfl (by decide) rfl rfl dL_law_141 dL_law_142 dL_law_144 dL_law_145 dL_law_146 ?_
  refine law_arg (i := j) (j := 2) X hX hb hL (by omega) rfl (by decide) rfl rfl dL_law_147 dL_law_148 dL_law_150 dL_law_151 dL_law_152 ?_
  refine law_arg (i := j) (j := 3) X hX hb hL (by omega) rfl (by decide) rfl rfl dL_law_153 dL_law_154 dL_law_156 dL_law_157 dL_law_158 ?_
  refine law_arg (i := j) (j := 4) X hX hb hL (by omega) rfl (by decide) rfl rfl dL_law_159 dL_law_160 dL_law_162 dL_law_163 dL_law_164 ?_
  refine law_arg (i := j) (j := 5) X hX hb hL (by omega) rfl (by decide) rfl rfl dL_law_165 dL_law_166 dL_law_168 dL_law_169 dL_law_170 ?_
  refine g_aload_n (x := some (mm + 59)) X dL_law_171 rfl rfl ?_
  refine law_cls (As := [vR (some x), vI (xs (j + 1)), vI (xs (j + 2)), vI (xs (j + 3)), vI (xs (j + 4)), vI (xs (j + 5)), vR (some (mm + 59))]) (mc := 1) (ms := 6) (np := 7) (K_feed S hi) T3 (pr_f_X11_feed rfl rfl) (fun M v M2 h a ha => (pj_f_X14_feed ⟨Nat.le_refl _, fun _ _ => rfl⟩ _ h).2 a ha) X (fun v M1 h1 h2 h3 => mw_feed l hlx hH T1 h1 h2 h3) (fun M1 h => mw_feed_t1 l hlx hH T1 h) (fun hc => absurd hc (by decide)) (vx_cwSW 7 X.2.2.1 (gMono gL_law_L_feed) rfl rfl rfl (by decide +kernel) ⟨Nat.le_of_ble_eq_true rfl, Nat.le_of_ble_eq_true rfl⟩) rfl rfl dL_law_172 dL_law_175 ⟨by omega, by omega⟩ ?_
  rintro cd M1 ⟨⟨t1, l1⟩, v, M2, g1, g2, g3, g4⟩
  refine g_sub (lvsub_of _ ((5, vI cd) :: lLv b x mm j) [0, 1, 2, 3, 4, 5] rfl) ?_
  refine g_aload_n (x := some mm) X dL_law_177 rfl rfl ?_
  refine law_arg (i := j) (j := 1) X hX hb hL (by omega) rfl (by decide) rfl rfl dL_law_178 dL_law_179 dL_law_181 dL_law_182 dL_law_183 ?_
  refine law_arg (i := j) (j := 2) X hX hb hL (by omega) rfl (by decide) rfl rfl dL_law_184 dL_law_185 dL_law_187 dL_law_188 dL_law_189 ?_
  refine law_arg (i := j) (j := 3) X hX hb hL (by omega) rfl (by decide) rfl rfl dL_law_190 dL_law_191 dL_law_193 dL_law_194 dL_law_195 ?_
  refine law_arg (i := j) (j := 4) X hX hb hL (by omega) rfl (by decide) rfl rfl dL_law_196 dL_law_197 dL_law_199 dL_law_200 dL_law_201 ?_
  refine law_arg (i := j) (j := 5) X hX hb hL (by omega) rfl (by decide) rfl rfl dL_law_202 dL_law_203 dL_law_205 dL_law_206 dL_law_207 ?_
  refine g_callV (ci := 12) (b := mm) (As := [vI (xs (j + 1)), vI (xs (j + 2)), vI (xs (j + 3)), vI (xs (j + 4)), vI (xs (j + 5))]) (st := []) (v := some (vI v)) (M1 := M2) (gX_w (gX_w3 X)) (m_X14_feed l g1) (cwV 5 X.2.2.1 (gMono gL_law_X14_feed) rfl rfl rfl (by decide +kernel) ⟨Nat.le_of_ble_eq_true rfl, Nat.le_of_ble_eq_true rfl⟩) rfl rfl rfl (by rw [t1]; exact T2) (by decide) rfl (Nat.le_of_ble_eq_true rfl) dL_law_208 ⟨(show _ ≤ 601024 by omega), (show _ ≤ 7293034 by omega)⟩ ?_
  obtain ⟨-, U2, -, U4, U5⟩ := LIv_T g3.1
  exact law_tail X ⟨dL_law_211, dL_law_213, dL_law_214, dL_law_217, dL_law_219, dL_law_224, dL_law_226, dL_law_229, dL_law_230, dL_law_231, dL_law_232, dL_law_234, dL_law_235, dL_law_236, _, dL_law_241, by decide⟩ U2 g2 U4 U5 g4 ⟨by omega, by omega⟩ (g_wide (by omega) (by omega) (kk M2 g3.1))
set_option maxRecDepth 20000 in
theorem law_c_trim (hlx : l.stackTraces = false) (hH : H0.size = B) (X : gXL p s m b meth c D cy B Z H0) (hX : va_X b L xs s H0) (hb : b < B) (hL : L ≤ 3072) (hj : j + 5 < L) (S : LIv Z x mm i M) (hi : i ≤ 600) (hf : k + 160 ≤ 601024 ∧ n + 1600 ≤ 7293034) (kk : ∀ M', LIv Z x mm (i + 1) M' → gGL p l e s m b below meth c D cy B H0 (k + 160) (n + 1600) Q 1290 (lLv b x mm j) [] M') : gGL p l e s m b below meth c D cy B H0 k n Q 244 (lLv b x mm j) [] M := by
  obtain ⟨T1, T2, T3, -, -⟩ := LIv_T S
  refine g_aload_n (x := some x) X dL_law_244 rfl rfl ?_
  refine law_arg (i := j) (j := 1) X hX hb hL (by omega) rfl (by decide) rfl rfl dL_law_245 dL_law_246 dL_law_248 dL_law_249 dL_law_250 ?_
  refine g_aload_n (x := some (mm + 59)) X dL_law_251 rfl rfl ?_
  refine law_cls (As := [vR (some x), vI (xs (j + 1)), vR (some (mm + 59))]) (mc := 1) (ms := 6) (np := 3) (K_trim S hi) T3 (pr_f_X11_trim rfl rfl) (fun M v M2 h a ha => (pj_f_X14_trim ⟨Nat.le_refl _, fun _ _ => rfl⟩ _ h).2 a ha) X (fun v M1 h1 h2 h3 => mw_trim l hlx hH T1 h1 h2 h3) (fun M1 h => mw_trim_t1 l hlx hH T1 h) (fun hc => absurd hc (by decide)) (vx_cwSW 3 X.2.2.1 (gMono gL_law_L_trim) rfl rfl rfl (by decide +kernel) ⟨Nat.le_of_ble_eq_true rfl, Nat.le_of_ble_eq_true rfl⟩) rfl rfl dL_law_252 dL_law_255 ⟨by omega, by omega⟩ ?_
  rintro cd M1 ⟨⟨t1, l1⟩, v, M2, g1, g2, g3, g4⟩
  refine g_sub (lvsub_of _ ((5, vI cd) :: lLv b x mm j) [0, 1, 2, 3, 4, 5] rfl) ?_
  refine g_aload_n (x := some mm) X dL_law_257 rfl rfl ?_
  refine law_arg (i := j) (j := 1) X hX hb hL (by omega) rfl (by decide) rfl rfl dL_law_258 dL_law_259 dL_law_261 dL_law_262 dL_law_263 ?_
  refine g_callV (ci := 12) (b := mm) (As := [vI (xs (j + 1))]) (st := []) (v := some (vI v)) (M1 := M2) (gX_w (gX_w3 X)) (m_X14_trim l g1) (cwV 1 X.2.2.1 (gMono gL_law_X14_trim) rfl rfl rfl (by decide +kernel) ⟨Nat.le_of_ble_eq_true rfl, Nat.le_of_ble_eq_true rfl⟩) rfl rfl rfl (by rw [t1]; exact T2) (by decide) rfl (Nat.le_of_ble_eq_true rfl) dL_law_264 ⟨(show _ ≤ 601024 by omega), (show _ ≤ 7293034 by omega)⟩ ?_
  obtain ⟨-, U2, -, U4, U5⟩ := LIv_T g3.1
  exact law_tail X ⟨dL_law_267, dL_law_269, dL_law_270, dL_law_273, dL_law_275, dL_law_280, dL_law_282, dL_law_285, dL_law_286, dL_law_287, dL_law_288, dL_law_290, dL_law_291, dL_law_292, _, dL_law_297, by decide⟩ U2 g2 U4 U5 g4 ⟨by omega, by omega⟩ (g_wide (by omega) (by omega) (kk M2 g3.1))
set_option maxRecDepth 20000 in
theorem law_c_count (hlx : l.stackTraces = false) (hH : H0.size = B) (X : gXL p s m b meth c D cy B Z H0) (hX : va_X b L xs s H0) (hb : b < B) (hL : L ≤ 3072) (hj : j + 5 < L) (S : LIv Z x mm i M) (hi : i ≤ 600) (hf : k + 160 ≤ 601024 ∧ n + 1600 ≤ 7293034) (kk : ∀ M', LIv Z x mm (i + 1) M' → gGL p l e s m b below meth c D cy B H0 (k + 160) (n + 1600) Q 1290 (lLv b x mm j) [] M') : gGL p l e s m b below meth c D cy B H0 k n Q 326 (lLv b x mm j) [] M := by
  obtain ⟨T1, T2, T3, -, -⟩ := LIv_T S
  refine g_aload_n (x := some x) X dL_law_326 rfl rfl ?_
  refine law_arg (i := j) (j := 1) X hX hb hL (by omega) rfl (by decide) rfl rfl dL_law_327 dL_law_328 dL_law_330 dL_law_331 dL_law_332 ?_
  refine g_aload_n (x := some (mm + 59)) X dL_law_333 rfl rfl ?_
  refine law_cls (As := [vR (some x), vI (xs (j + 1)), vR (some (mm + 59))]) (mc := 1) (ms := 6) (np := 3) (K_count S hi) T3 (pr_f_X11_count rfl rfl) (fun M v M2 h a ha => (pj_f_X14_count ⟨Nat.le_refl _, fun _ _ => rfl⟩ _ h).2 a ha) X (fun v M1 h1 h2 h3 => mw_count l hlx hH T1 h1 h2 h3) (fun M1 h => mw_count_t1 l hlx hH T1 h) (fun hc => absurd hc (by decide)) (vx_cwSW 3 X.2.2.1 (gMono gL_law_L_count) rfl rfl rfl (by decide +kernel) ⟨Nat.le_of_ble_eq_true rfl, Nat.le_of_ble_eq_true rfl⟩) rfl rfl dL_law_334 dL_law_337 ⟨by omega, by omega⟩ ?_
  rintro cd M1 ⟨⟨t1, l1⟩, v, M2, g1, g2, g3, g4⟩
  refine g_sub (lvsub_of _ ((5, vI cd) :: lLv b x mm j) [0, 1, 2, 3, 4, 5] rfl) ?_
  refine g_aload_n (x := some mm) X dL_law_339 rfl rfl ?_
  refine law_arg (i := j) (j := 1) X hX hb hL (by omega) rfl (by decide) rfl rfl dL_law_340 dL_law_341 dL_law_343 dL_law_344 dL_law_345 ?_
  refine g_callV (ci := 12) (b := mm) (As := [vI (xs (j + 1))]) (st := []) (v := some (vI v)) (M1 := M2) (gX_w (gX_w3 X)) (m_X14_count l g1) (cwV 1 X.2.2.1 (gMono gL_law_X14_count) rfl rfl rfl (by decide +kernel) ⟨Nat.le_of_ble_eq_true rfl, Nat.le_of_ble_eq_true rfl⟩) rfl rfl rfl (by rw [t1]; exact T2) (by decide) rfl (Nat.le_of_ble_eq_true rfl) dL_law_346 ⟨(show _ ≤ 601024 by omega), (show _ ≤ 7293034 by omega)⟩ ?_
  obtain ⟨-, U2, -, U4, U5⟩ := LIv_T g3.1
  exact law_tail X ⟨dL_law_349, dL_law_351, dL_law_352, dL_law_355, dL_law_357, dL_law_362, dL_law_364, dL_law_367, dL_law_368, dL_law_369, dL_law_370, dL_law_372, dL_law_373, dL_law_374, _, dL_law_379, by decide⟩ U2 g2 U4 U5 g4 ⟨by omega, by omega⟩ (g_wide (by omega) (by omega) (kk M2 g3.1))
set_option maxRecDepth 20000 in
theorem law_c_ground (hlx : l.stackTraces = false) (hH : H0.size = B) (X : gXL p s m b meth c D cy B Z H0) (hX : va_X b L xs s H0) (hb : b < B) (hL : L ≤ 3072) (hj : j + 5 < L) (S : LIv Z x mm i M) (hi : i ≤ 600) (hf : k + 160 ≤ 601024 ∧ n + 1600 ≤ 7293034) (kk : ∀ M', LIv Z x mm (i + 1) M' → gGL p l e s m b below meth c D cy B H0 (k + 160) (n + 1600) Q 1290 (lLv b x mm j) [] M') : gGL p l e s m b below meth c D cy B H0 k n Q 382 (lLv b x mm j) [] M := by
  obtain ⟨T1, T2, T3, -, -⟩ := LIv_T S
  refine g_aload_n (x := some x) X dL_law_382 rfl rfl ?_
  refine law_arg (i := j) (j := 1) X hX hb hL (by omega) rfl (by decide) rfl rfl dL_law_383 dL_law_384 dL_law_386 dL_law_387 dL_law_388 ?_
  refine law_arg (i := j) (j := 2) X hX hb hL (by omega) rfl (by decide) rfl rfl dL_law_389 dL_law_390 dL_law_392 dL_law_393 dL_law_394 ?_
  refine g_aload_n (x := some (mm + 59)) X dL_law_395 rfl rfl ?_
  refine law_cls (As := [vR (some x), vI (xs (j + 1)), vI (xs (j + 2)), vR (some (mm + 59))]) (mc := 2) (ms := 12) (np := 4) (K_ground S hi) T3 (pr_f_X11_ground rfl rfl) (fun M v M2 h a ha => (pj_f_X14_ground ⟨Nat.le_refl _, fun _ _ => rfl⟩ _ h).2 a ha) X (fun v M1 h1 h2 h3 => mw_ground l hlx hH T1 h1 h2 h3) (fun M1 h => mw_ground_t1 l hlx hH T1 h) (fun hc => absurd hc (by decide)) (vx_cwSW 4 X.2.2.1 (gMono gL_law_L_ground) rfl rfl rfl (by decide +kernel) ⟨Nat.le_of_ble_eq_true rfl, Nat.le_of_ble_eq_true rfl⟩) rfl rfl dL_law_396 dL_law_399 ⟨by omega, by omega⟩ ?_
  rintro cd M1 ⟨⟨t1, l1⟩, v, M2, g1, g2, g3, g4⟩
  refine g_sub (lvsub_of _ ((5, vI cd) :: lLv b x mm j) [0, 1, 2, 3, 4, 5] rfl) ?_
  refine g_aload_n (x := some mm) X dL_law_401 rfl rfl ?_
  refine law_arg (i := j) (j := 1) X hX hb hL (by omega) rfl (by decide) rfl rfl dL_law_402 dL_law_403 dL_law_405 dL_law_406 dL_law_407 ?_
  refine law_arg (i := j) (j := 2) X hX hb hL (by omega) rfl (by decide) rfl rfl dL_law_408 dL_law_409 dL_law_411 dL_law_412 dL_law_413 ?_
  refine g_callV (ci := 12) (b := mm) (As := [vI (xs (j + 1)), vI (xs (j + 2))]) (st := []) (v := some (vI v)) (M1 := M2) (gX_w (gX_w3 X)) (m_X14_ground l g1) (cwV 2 X.2.2.1 (gMono gL_law_X14_ground) rfl rfl rfl (by decide +kernel) ⟨Nat.le_of_ble_eq_true rfl, Nat.le_of_ble_eq_true rfl⟩) rfl rfl rfl (by rw [t1]; exact T2) (by decide) rfl (Nat.le_of_ble_eq_true rfl) dL_law_414 ⟨(show _ ≤ 601024 by omega), (show _ ≤ 7293034 by omega)⟩ ?_
  obtain ⟨-, U2, -, U4, U5⟩ := LIv_T g3.1
  exact law_tail X ⟨dL_law_417, dL_law_419, dL_law_420, dL_law_423, dL_law_425, dL_law_430, dL_law_432, dL_law_435, dL_law_436, dL_law_437, dL_law_438, dL_law_440, dL_law_441, dL_law_442, _, dL_law_447, by decide⟩ U2 g2 U4 U5 g4 ⟨by omega, by omega⟩ (g_wide (by omega) (by omega) (kk M2 g3.1))
set_option maxRecDepth 20000 in
theorem law_c_fisher (hlx : l.stackTraces = false) (hH : H0.size = B) (X : gXL p s m b meth c D cy B Z H0) (hX : va_X b L xs s H0) (hb : b < B) (hL : L ≤ 3072) (hj : j + 5 < L) (S : LIv Z x mm i M) (hi : i ≤ 600) (hf : k + 160 ≤ 601024 ∧ n + 1600 ≤ 7293034) (kk : ∀ M', LIv Z x mm (i + 1) M' → gGL p l e s m b below meth c D cy B H0 (k + 160) (n + 1600) Q 1290 (lLv b x mm j) [] M') : gGL p l e s m b below meth c D cy B H0 k n Q 450 (lLv b x mm j) [] M := by
  obtain ⟨T1, T2, T3, -, -⟩ := LIv_T S
  refine g_aload_n (x := some x) X dL_law_450 rfl rfl ?_
  refine law_arg (i := j) (j := 1) X hX hb hL (by omega) rfl (by decide) rfl rfl dL_law_451 dL_law_452 dL_law_454 dL_law_455 dL_law_456 ?_
  refine law_arg (i := j) (j := 2) X hX hb hL (by omega) rfl (by decide) rfl rfl dL_law_457 dL_law_458 dL_law_460 dL_law_461 dL_law_462 ?_
  refine g_aload_n (x := some (mm + 59)) X dL_law_463 rfl rfl ?_
  refine law_cls (As := [vR (some x), vI (xs (j + 1)), vI (xs (j + 2)), vR (some (mm + 59))]) (mc := 2) (ms := 12) (np := 4) (K_fisher S hi) T3 (pr_f_X11_fisher rfl rfl) (fun M v M2 h a ha => (pj_f_X14_fisher ⟨Nat.le_refl _, fun _ _ => rfl⟩ _ h).2 a ha) X (fun v M1 h1 h2 h3 => mw_fisher l hlx hH T1 h1 h2 h3) (fun M1 h => mw_fisher_t1 l hlx hH T1 h) (fun hc => absurd hc (by decide)) (vx_cwSW 4 X.2.2.1 (gMono gL_law_L_fisher) rfl rfl rfl (by decide +kernel) ⟨Nat.le_of_ble_eq_true rfl, Nat.le_of_ble_eq_true rfl⟩) rfl rfl dL_law_464 dL_law_467 ⟨by omega, by omega⟩ ?_
  rintro cd M1 ⟨⟨t1, l1⟩, v, M2, g1, g2, g3, g4⟩
  refine g_sub (lvsub_of _ ((5, vI cd) :: lLv b x mm j) [0, 1, 2, 3, 4, 5] rfl) ?_
  refine g_aload_n (x := some mm) X dL_law_469 rfl rfl ?_
  refine law_arg (i := j) (j := 1) X hX hb hL (by omega) rfl (by decide) rfl rfl dL_law_470 dL_law_471 dL_law_473 dL_law_474 dL_law_475 ?_
  refine law_arg (i := j) (j := 2) X hX hb hL (by omega) rfl (by decide) rfl rfl dL_law_476 dL_law_477 dL_law_479 dL_law_480 dL_law_481 ?_
  refine g_callV (ci := 12) (b := mm) (As := [vI (xs (j + 1)), vI (xs (j + 2))]) (st := []) (v := some (vI v)) (M1 := M2) (gX_w (gX_w3 X)) (m_X14_fisher l g1) (cwV 2 X.2.2.1 (gMono gL_law_X14_fisher) rfl rfl rfl (by decide +kernel) ⟨Nat.le_of_ble_eq_true rfl, Nat.le_of_ble_eq_true rfl⟩) rfl rfl rfl (by rw [t1]; exact T2) (by decide) rfl (Nat.le_of_ble_eq_true rfl) dL_law_482 ⟨(show _ ≤ 601024 by omega), (show _ ≤ 7293034 by omega)⟩ ?_
  obtain ⟨-, U2, -, U4, U5⟩ := LIv_T g3.1
  exact law_tail X ⟨dL_law_485, dL_law_487, dL_law_488, dL_law_491, dL_law_493, dL_law_498, dL_law_500, dL_law_503, dL_law_504, dL_law_505, dL_law_506, dL_law_508, dL_law_509, dL_law_510, _, dL_law_515, by decide⟩ U2 g2 U4 U5 g4 ⟨by omega, by omega⟩ (g_wide (by omega) (by omega) (kk M2 g3.1))
set_option maxRecDepth 20000 in
theorem law_c_pact (hlx : l.stackTraces = false) (hH : H0.size = B) (X : gXL p s m b meth c D cy B Z H0) (hX : va_X b L xs s H0) (hb : b < B) (hL : L ≤ 3072) (hj : j + 5 < L) (S : LIv Z x mm i M) (hi : i ≤ 600) (hf : k + 160 ≤ 601024 ∧ n + 1600 ≤ 7293034) (kk : ∀ M', LIv Z x mm (i + 1) M' → gGL p l e s m b below meth c D cy B H0 (k + 160) (n + 1600) Q 1290 (lLv b x mm j) [] M') : gGL p l e s m b below meth c D cy B H0 k n Q 518 (lLv b x mm j) [] M := by
  obtain ⟨T1, T2, T3, -, -⟩ := LIv_T S
  refine g_aload_n (x := some x) X dL_law_518 rfl rfl ?_
  refine law_arg (i := j) (j := 1) X hX hb hL (by omega) rfl (by decide) rfl rfl dL_law_519 dL_law_520 dL_law_522 dL_law_523 dL_law_524 ?_
  refine law_arg (i := j) (j := 2) X hX hb hL (by omega) rfl (by decide) rfl rfl dL_law_525 dL_law_526 dL_law_528 dL_law_529 dL_law_530 ?_
  refine g_aload_n (x := some (mm + 59)) X dL_law_531 rfl rfl ?_
  refine law_cls (As := [vR (some x), vI (xs (j + 1)), vI (xs (j + 2)), vR (some (mm + 59))]) (mc := 1) (ms := 6) (np := 4) (K_pact S hi) T3 (pr_f_X11_pact rfl rfl) (fun M v M2 h a ha => (pj_f_X14_pact ⟨Nat.le_refl _, fun _ _ => rfl⟩ _ h).2 a ha) X (fun v M1 h1 h2 h3 => mw_pact l hlx hH T1 h1 h2 h3) (fun M1 h => mw_pact_t1 l hlx hH T1 h) (fun hc => absurd hc (by decide)) (vx_cwSW 4 X.2.2.1 (gMono gL_law_L_pact) rfl rfl rfl (by decide +kernel) ⟨Nat.le_of_ble_eq_true rfl, Nat.le_of_ble_eq_true rfl⟩) rfl rfl dL_law_532 dL_law_535 ⟨by omega, by omega⟩ ?_
  rintro cd M1 ⟨⟨t1, l1⟩, v, M2, g1, g2, g3, g4⟩
  refine g_sub (lvsub_of _ ((5, vI cd) :: lLv b x mm j) [0, 1, 2, 3, 4, 5] rfl) ?_
  refine g_aload_n (x := some mm) X dL_law_537 rfl rfl ?_
  refine law_arg (i := j) (j := 1) X hX hb hL (by omega) rfl (by decide) rfl rfl dL_law_538 dL_law_539 dL_law_541 dL_law_542 dL_law_543 ?_
  refine law_arg (i := j) (j := 2) X hX hb hL (by omega) rfl (by decide) rfl rfl dL_law_544 dL_law_545 dL_law_547 dL_law_548 dL_law_549 ?_
  refine g_callV (ci := 12) (b := mm) (As := [vI (xs (j + 1)), vI (xs (j + 2))]) (st := []) (v := some (vI v)) (M1 := M2) (gX_w (gX_w3 X)) (m_X14_pact l g1) (cwV 2 X.2.2.1 (gMono gL_law_X14_pact) rfl rfl rfl (by decide +kernel) ⟨Nat.le_of_ble_eq_true rfl, Nat.le_of_ble_eq_true rfl⟩) rfl rfl rfl (by rw [t1]; exact T2) (by decide) rfl (Nat.le_of_ble_eq_true rfl) dL_law_550 ⟨(show _ ≤ 601024 by omega), (show _ ≤ 7293034 by omega)⟩ ?_
  obtain ⟨-, U2, -, U4, U5⟩ := LIv_T g3.1
  exact law_tail X ⟨dL_law_553, dL_law_555, dL_law_556, dL_law_559, dL_law_561, dL_law_566, dL_law_568, dL_law_571, dL_law_572, dL_law_573, dL_law_574, dL_law_576, dL_law_577, dL_law_578, _, dL_law_583, by decide⟩ U2 g2 U4 U5 g4 ⟨by omega, by omega⟩ (g_wide (by omega) (by omega) (kk M2 g3.1))
set_option maxRecDepth 20000 in
theorem law_c_cheat (hlx : l.stackTraces = false) (hH : H0.size = B) (X : gXL p s m b meth c D cy B Z H0) (hX : va_X b L xs s H0) (hb : b < B) (hL : L ≤ 3072) (hj : j + 5 < L) (S : LIv Z x mm i M) (hi : i ≤ 600) (hf : k + 160 ≤ 601024 ∧ n + 1600 ≤ 7293034) (kk : ∀ M', LIv Z x mm (i + 1) M' → gGL p l e s m b below meth c D cy B H0 (k + 160) (n + 1600) Q 1290 (lLv b x mm j) [] M') : gGL p l e s m b below meth c D cy B H0 k n Q 586 (lLv b x mm j) [] M := by
  obtain ⟨T1, T2, T3, -, -⟩ := LIv_T S
  refine g_aload_n (x := some x) X dL_law_586 rfl rfl ?_
  refine law_arg (i := j) (j := 1) X hX hb hL (by omega) rfl (by decide) rfl rfl dL_law_587 dL_law_588 dL_law_590 dL_law_591 dL_law_592 ?_
  refine law_arg (i := j) (j := 2) X hX hb hL (by omega) rfl (by decide) rfl rfl dL_law_593 dL_law_594 dL_law_596 dL_law_597 dL_law_598 ?_
  refine law_bool X dL_law_599 dL_law_602 dL_law_603 dL_law_606 ?_
  refine g_aload_n (x := some (mm + 59)) X dL_law_607 rfl rfl ?_
  refine law_cls (As := [vR (some x), vI (xs (j + 1)), vI (bz (xs (j + 2))), vR (some (mm + 59))]) (mc := 1) (ms := 6) (np := 4) (K_cheat S hi bz_01) T3 (pr_f_X11_cheat rfl rfl) (fun M v M2 h a ha => (pj_f_X14_cheat ⟨Nat.le_refl _, fun _ _ => rfl⟩ _ h).2 a ha) X (fun v M1 h1 h2 h3 => mw_cheat l hlx hH T1 h1 h2 h3) (fun M1 h => mw_cheat_t1 l hlx hH T1 h) (fun hc => absurd hc (by decide)) (vx_cwSW 4 X.2.2.1 (gMono gL_law_L_cheat) rfl rfl rfl (by decide +kernel) ⟨Nat.le_of_ble_eq_true rfl, Nat.le_of_ble_eq_true rfl⟩) rfl rfl dL_law_608 dL_law_611 ⟨by omega, by omega⟩ ?_
  rintro cd M1 ⟨⟨t1, l1⟩, v, M2, g1, g2, g3, g4⟩
  refine g_sub (lvsub_of _ ((5, vI cd) :: lLv b x mm j) [0, 1, 2, 3, 4, 5] rfl) ?_
  refine g_aload_n (x := some mm) X dL_law_613 rfl rfl ?_
  refine law_arg (i := j) (j := 1) X hX hb hL (by omega) rfl (by decide) rfl rfl dL_law_614 dL_law_615 dL_law_617 dL_law_618 dL_law_619 ?_
  refine law_arg (i := j) (j := 2) X hX hb hL (by omega) rfl (by decide) rfl rfl dL_law_620 dL_law_621 dL_law_623 dL_law_624 dL_law_625 ?_
  refine law_bool X dL_law_626 dL_law_629 dL_law_630 dL_law_633 ?_
  refine g_callV (ci := 12) (b := mm) (As := [vI (xs (j + 1)), vI (bz (xs (j + 2)))]) (st := []) (v := some (vI v)) (M1 := M2) (gX_w (gX_w3 X)) (m_X14_cheat l g1) (cwV 2 X.2.2.1 (gMono gL_law_X14_cheat) rfl rfl rfl (by decide +kernel) ⟨Nat.le_of_ble_eq_true rfl, Nat.le_of_ble_eq_true rfl⟩) rfl rfl rfl (by rw [t1]; exact T2) (by decide) rfl (Nat.le_of_ble_eq_true rfl) dL_law_634 ⟨(show _ ≤ 601024 by omega), (show _ ≤ 7293034 by omega)⟩ ?_
  obtain ⟨-, U2, -, U4, U5⟩ := LIv_T g3.1
  exact law_tail X ⟨dL_law_637, dL_law_639, dL_law_640, dL_law_643, dL_law_645, dL_law_650, dL_law_652, dL_law_655, dL_law_656, dL_law_657, dL_law_658, dL_law_660, dL_law_661, dL_law_662, _, dL_law_667, by decide⟩ U2 g2 U4 U5 g4 ⟨by omega, by omega⟩ (g_wide (by omega) (by omega) (kk M2 g3.1))
set_option maxRecDepth 20000 in
theorem law_c_mend (hlx : l.stackTraces = false) (hH : H0.size = B) (X : gXL p s m b meth c D cy B Z H0) (hX : va_X b L xs s H0) (hb : b < B) (hL : L ≤ 3072) (hj : j + 5 < L) (S : LIv Z x mm i M) (hi : i ≤ 600) (hf : k + 160 ≤ 601024 ∧ n + 1600 ≤ 7293034) (kk : ∀ M', LIv Z x mm (i + 1) M' → gGL p l e s m b below meth c D cy B H0 (k + 160) (n + 1600) Q 1290 (lLv b x mm j) [] M') : gGL p l e s m b below meth c D cy B H0 k n Q 670 (lLv b x mm j) [] M := by
  obtain ⟨T1, T2, T3, -, -⟩ := LIv_T S
  refine g_aload_n (x := some x) X dL_law_670 rfl rfl ?_
  refine law_arg (i := j) (j := 1) X hX hb hL (by omega) rfl (by decide) rfl rfl dL_law_671 dL_law_672 dL_law_674 dL_law_675 dL_law_676 ?_
  refine g_aload_n (x := some (mm + 59)) X dL_law_677 rfl rfl ?_
  refine law_cls (As := [vR (some x), vI (xs (j + 1)), vR (some (mm + 59))]) (mc := 2) (ms := 12) (np := 3) (K_mend S hi) T3 (pr_f_X11_mend rfl rfl) (fun M v M2 h a ha => (pj_f_X14_mend ⟨Nat.le_refl _, fun _ _ => rfl⟩ _ h).2 a ha) X (fun v M1 h1 h2 h3 => mw_mend l hlx hH T1 h1 h2 h3) (fun M1 h => mw_mend_t1 l hlx hH T1 h) (fun _ M1 h => mw_mend_t2 l hlx hH T1 h) (vx_cwSW 3 X.2.2.1 (good2 gL_law_L_mend (by simp [wsL_xw]) (by simp [wsL_xw]) (by decide +kernel) (by decide +kernel)) rfl rfl rfl (by decide +kernel) ⟨Nat.le_of_ble_eq_true rfl, Nat.le_of_ble_eq_true rfl⟩) rfl rfl dL_law_678 dL_law_681 ⟨by omega, by omega⟩ ?_
  rintro cd M1 ⟨⟨t1, l1⟩, v, M2, g1, g2, g3, g4⟩
  refine g_sub (lvsub_of _ ((5, vI cd) :: lLv b x mm j) [0, 1, 2, 3, 4, 5] rfl) ?_
  refine g_aload_n (x := some mm) X dL_law_683 rfl rfl ?_
  refine law_arg (i := j) (j := 1) X hX hb hL (by omega) rfl (by decide) rfl rfl dL_law_684 dL_law_685 dL_law_687 dL_law_688 dL_law_689 ?_
  refine g_callV (ci := 12) (b := mm) (As := [vI (xs (j + 1))]) (st := []) (v := some (vI v)) (M1 := M2) (gX_w (gX_w3 X)) (m_X14_mend l g1) (cwV 1 X.2.2.1 (gMono gL_law_X14_mend) rfl rfl rfl (by decide +kernel) ⟨Nat.le_of_ble_eq_true rfl, Nat.le_of_ble_eq_true rfl⟩) rfl rfl rfl (by rw [t1]; exact T2) (by decide) rfl (Nat.le_of_ble_eq_true rfl) dL_law_690 ⟨(show _ ≤ 601024 by omega), (show _ ≤ 7293034 by omega)⟩ ?_
  obtain ⟨-, U2, -, U4, U5⟩ := LIv_T g3.1
  exact law_tail X ⟨dL_law_693, dL_law_695, dL_law_696, dL_law_699, dL_law_701, dL_law_706, dL_law_708, dL_law_711, dL_law_712, dL_law_713, dL_law_714, dL_law_716, dL_law_717, dL_law_718, _, dL_law_723, by decide⟩ U2 g2 U4 U5 g4 ⟨by omega, by omega⟩ (g_wide (by omega) (by omega) (kk M2 g3.1))
set_option maxRecDepth 20000 in
theorem law_c_lot (hlx : l.stackTraces = false) (hH : H0.size = B) (X : gXL p s m b meth c D cy B Z H0) (hX : va_X b L xs s H0) (hb : b < B) (hL : L ≤ 3072) (hj : j + 5 < L) (S : LIv Z x mm i M) (hi : i ≤ 600) (hf : k + 160 ≤ 601024 ∧ n + 1600 ≤ 7293034) (kk : ∀ M', LIv Z x mm (i + 1) M' → gGL p l e s m b below meth c D cy B H0 (k + 160) (n + 1600) Q 1290 (lLv b x mm j) [] M') : gGL p l e s m b below meth c D cy B H0 k n Q 726 (lLv b x mm j) [] M := by
  obtain ⟨T1, T2, T3, -, -⟩ := LIv_T S
  refine g_aload_n (x := some x) X dL_law_726 rfl rfl ?_
  refine law_arg (i := j) (j := 1) X hX hb hL (by omega) rfl (by decide) rfl rfl dL_law_727 dL_law_728 dL_law_730 dL_law_731 dL_law_732 ?_
  refine g_aload_n (x := some (mm + 59)) X dL_law_733 rfl rfl ?_
  refine law_cls (As := [vR (some x), vI (xs (j + 1)), vR (some (mm + 59))]) (mc := 1) (ms := 6) (np := 3) (K_lot S hi) T3 (pr_f_X11_lot rfl rfl) (fun M v M2 h a ha => (pj_f_X14_lot ⟨Nat.le_refl _, fun _ _ => rfl⟩ _ h).2 a ha) X (fun v M1 h1 h2 h3 => mw_lot l hlx hH T1 h1 h2 h3) (fun M1 h => mw_lot_t1 l hlx hH T1 h) (fun hc => absurd hc (by decide)) (vx_cwSW 3 X.2.2.1 (gMono gL_law_L_lot) rfl rfl rfl (by decide +kernel) ⟨Nat.le_of_ble_eq_true rfl, Nat.le_of_ble_eq_true rfl⟩) rfl rfl dL_law_734 dL_law_737 ⟨by omega, by omega⟩ ?_
  rintro cd M1 ⟨⟨t1, l1⟩, v, M2, g1, g2, g3, g4⟩
  refine g_sub (lvsub_of _ ((5, vI cd) :: lLv b x mm j) [0, 1, 2, 3, 4, 5] rfl) ?_
  refine g_aload_n (x := some mm) X dL_law_739 rfl rfl ?_
  refine law_arg (i := j) (j := 1) X hX hb hL (by omega) rfl (by decide) rfl rfl dL_law_740 dL_law_741 dL_law_743 dL_law_744 dL_law_745 ?_
  refine g_callV (ci := 12) (b := mm) (As := [vI (xs (j + 1))]) (st := []) (v := some (vI v)) (M1 := M2) (gX_w (gX_w3 X)) (m_X14_lot l g1) (cwV 1 X.2.2.1 (gMono gL_law_X14_lot) rfl rfl rfl (by decide +kernel) ⟨Nat.le_of_ble_eq_true rfl, Nat.le_of_ble_eq_true rfl⟩) rfl rfl rfl (by rw [t1]; exact T2) (by decide) rfl (Nat.le_of_ble_eq_true rfl) dL_law_746 ⟨(show _ ≤ 601024 by omega), (show _ ≤ 7293034 by omega)⟩ ?_
  obtain ⟨-, U2, -, U4, U5⟩ := LIv_T g3.1
  exact law_tail X ⟨dL_law_749, dL_law_751, dL_law_752, dL_law_755, dL_law_757, dL_law_762, dL_law_764, dL_law_767, dL_law_768, dL_law_769, dL_law_770, dL_law_772, dL_law_773, dL_law_774, _, dL_law_779, by decide⟩ U2 g2 U4 U5 g4 ⟨by omega, by omega⟩ (g_wide (by omega) (by omega) (kk M2 g3.1))
set_option maxRecDepth 20000 in
theorem law_c_took (hlx : l.stackTraces = false) (hH : H0.size = B) (X : gXL p s m b meth c D cy B Z H0) (hX : va_X b L xs s H0) (hb : b < B) (hL : L ≤ 3072) (hj : j + 5 < L) (S : LIv Z x mm i M) (hi : i ≤ 600) (hf : k + 160 ≤ 601024 ∧ n + 1600 ≤ 7293034) (kk : ∀ M', LIv Z x mm (i + 1) M' → gGL p l e s m b below meth c D cy B H0 (k + 160) (n + 1600) Q 1290 (lLv b x mm j) [] M') : gGL p l e s m b below meth c D cy B H0 k n Q 782 (lLv b x mm j) [] M := by
  obtain ⟨T1, T2, T3, -, -⟩ := LIv_T S
  refine g_aload_n (x := some x) X dL_law_782 rfl rfl ?_
  refine law_arg (i := j) (j := 1) X hX hb hL (by omega) rfl (by decide) rfl rfl dL_law_783 dL_law_784 dL_law_786 dL_law_787 dL_law_788 ?_
  refine law_arg (i := j) (j := 2) X hX hb hL (by omega) rfl (by decide) rfl rfl dL_law_789 dL_law_790 dL_law_792 dL_law_793 dL_law_794 ?_
  refine g_aload_n (x := some (mm + 59)) X dL_law_795 rfl rfl ?_
  refine law_cls (As := [vR (some x), vI (xs (j + 1)), vI (xs (j + 2)), vR (some (mm + 59))]) (mc := 2) (ms := 12) (np := 4) (K_took S hi) T3 (pr_f_X11_took rfl rfl) (fun M v M2 h a ha => (pj_f_X14_took ⟨Nat.le_refl _, fun _ _ => rfl⟩ _ h).2 a ha) X (fun v M1 h1 h2 h3 => mw_took l hlx hH T1 h1 h2 h3) (fun M1 h => mw_took_t1 l hlx hH T1 h) (fun hc => absurd hc (by decide)) (vx_cwSW 4 X.2.2.1 (gMono gL_law_L_took) rfl rfl rfl (by decide +kernel) ⟨Nat.le_of_ble_eq_true rfl, Nat.le_of_ble_eq_true rfl⟩) rfl rfl dL_law_796 dL_law_799 ⟨by omega, by omega⟩ ?_
  rintro cd M1 ⟨⟨t1, l1⟩, v, M2, g1, g2, g3, g4⟩
  refine g_sub (lvsub_of _ ((5, vI cd) :: lLv b x mm j) [0, 1, 2, 3, 4, 5] rfl) ?_
  refine g_aload_n (x := some mm) X dL_law_801 rfl rfl ?_
  refine law_arg (i := j) (j := 1) X hX hb hL (by omega) rfl (by decide) rfl rfl dL_law_802 dL_law_803 dL_law_805 dL_law_806 dL_law_807 ?_
  refine law_arg (i := j) (j := 2) X hX hb hL (by omega) rfl (by decide) rfl rfl dL_law_808 dL_law_809 dL_law_811 dL_law_812 dL_law_813 ?_
  refine g_callV (ci := 12) (b := mm) (As := [vI (xs (j + 1)), vI (xs (j + 2))]) (st := []) (v := some (vI v)) (M1 := M2) (gX_w (gX_w3 X)) (m_X14_took l g1) (cwV 2 X.2.2.1 (gMono gL_law_X14_took) rfl rfl rfl (by decide +kernel) ⟨Nat.le_of_ble_eq_true rfl, Nat.le_of_ble_eq_true rfl⟩) rfl rfl rfl (by rw [t1]; exact T2) (by decide) rfl (Nat.le_of_ble_eq_true rfl) dL_law_814 ⟨(show _ ≤ 601024 by omega), (show _ ≤ 7293034 by omega)⟩ ?_
  obtain ⟨-, U2, -, U4, U5⟩ := LIv_T g3.1
  exact law_tail X ⟨dL_law_817, dL_law_819, dL_law_820, dL_law_823, dL_law_825, dL_law_830, dL_law_832, dL_law_835, dL_law_836, dL_law_837, dL_law_838, dL_law_840, dL_law_841, dL_law_842, _, dL_law_847, by decide⟩ U2 g2 U4 U5 g4 ⟨by omega, by omega⟩ (g_wide (by omega) (by omega) (kk M2 g3.1))
set_option maxRecDepth 20000 in
theorem law_c_blame (hlx : l.stackTraces = false) (hH : H0.size = B) (X : gXL p s m b meth c D cy B Z H0) (hX : va_X b L xs s H0) (hb : b < B) (hL : L ≤ 3072) (hj : j + 5 < L) (S : LIv Z x mm i M) (hi : i ≤ 600) (hf : k + 160 ≤ 601024 ∧ n + 1600 ≤ 7293034) (kk : ∀ M', LIv Z x mm (i + 1) M' → gGL p l e s m b below meth c D cy B H0 (k + 160) (n + 1600) Q 1290 (lLv b x mm j) [] M') : gGL p l e s m b below meth c D cy B H0 k n Q 850 (lLv b x mm j) [] M := by
  obtain ⟨T1, T2, T3, -, -⟩ := LIv_T S
  refine g_aload_n (x := some x) X dL_law_850 rfl rfl ?_
  refine law_arg (i := j) (j := 1) X hX hb hL (by omega) rfl (by decide) rfl rfl dL_law_851 dL_law_852 dL_law_854 dL_law_855 dL_law_856 ?_
  refine g_aload_n (x := some (mm + 59)) X dL_law_857 rfl rfl ?_
  refine law_cls (As := [vR (some x), vI (xs (j + 1)), vR (some (mm + 59))]) (mc := 1) (ms := 6) (np := 3) (K_blame S hi) T3 (pr_f_X11_blame rfl rfl) (fun M v M2 h a ha => (pj_f_X14_blame ⟨Nat.le_refl _, fun _ _ => rfl⟩ _ h).2 a ha) X (fun v M1 h1 h2 h3 => mw_blame l hlx hH T1 h1 h2 h3) (fun M1 h => mw_blame_t1 l hlx hH T1 h) (fun hc => absurd hc (by decide)) (vx_cwSW 3 X.2.2.1 (gMono gL_law_L_blame) rfl rfl rfl (by decide +kernel) ⟨Nat.le_of_ble_eq_true rfl, Nat.le_of_ble_eq_true rfl⟩) rfl rfl dL_law_858 dL_law_861 ⟨by omega, by omega⟩ ?_
  rintro cd M1 ⟨⟨t1, l1⟩, v, M2, g1, g2, g3, g4⟩
  refine g_sub (lvsub_of _ ((5, vI cd) :: lLv b x mm j) [0, 1, 2, 3, 4, 5] rfl) ?_
  refine g_aload_n (x := some mm) X dL_law_863 rfl rfl ?_
  refine law_arg (i := j) (j := 1) X hX hb hL (by omega) rfl (by decide) rfl rfl dL_law_864 dL_law_865 dL_law_867 dL_law_868 dL_law_869 ?_
  refine g_callV (ci := 12) (b := mm) (As := [vI (xs (j + 1))]) (st := []) (v := some (vI v)) (M1 := M2) (gX_w (gX_w3 X)) (m_X14_blame l g1) (cwV 1 X.2.2.1 (gMono gL_law_X14_blame) rfl rfl rfl (by decide +kernel) ⟨Nat.le_of_ble_eq_true rfl, Nat.le_of_ble_eq_true rfl⟩) rfl rfl rfl (by rw [t1]; exact T2) (by decide) rfl (Nat.le_of_ble_eq_true rfl) dL_law_870 ⟨(show _ ≤ 601024 by omega), (show _ ≤ 7293034 by omega)⟩ ?_
  obtain ⟨-, U2, -, U4, U5⟩ := LIv_T g3.1
  exact law_tail X ⟨dL_law_873, dL_law_875, dL_law_876, dL_law_879, dL_law_881, dL_law_886, dL_law_888, dL_law_891, dL_law_892, dL_law_893, dL_law_894, dL_law_896, dL_law_897, dL_law_898, _, dL_law_903, by decide⟩ U2 g2 U4 U5 g4 ⟨by omega, by omega⟩ (g_wide (by omega) (by omega) (kk M2 g3.1))
set_option maxRecDepth 20000 in
theorem law_c_pass (hlx : l.stackTraces = false) (hH : H0.size = B) (X : gXL p s m b meth c D cy B Z H0) (hX : va_X b L xs s H0) (hb : b < B) (hL : L ≤ 3072) (hj : j + 5 < L) (S : LIv Z x mm i M) (hi : i ≤ 600) (hf : k + 160 ≤ 601024 ∧ n + 1600 ≤ 7293034) (kk : ∀ M', LIv Z x mm (i + 1) M' → gGL p l e s m b below meth c D cy B H0 (k + 160) (n + 1600) Q 1290 (lLv b x mm j) [] M') : gGL p l e s m b below meth c D cy B H0 k n Q 919 (lLv b x mm j) [] M := by
  obtain ⟨T1, T2, T3, -, -⟩ := LIv_T S
  refine g_aload_n (x := some x) X dL_law_919 rfl rfl ?_
  refine law_arg (i := j) (j := 1) X hX hb hL (by omega) rfl (by decide) rfl rfl dL_law_920 dL_law_921 dL_law_923 dL_law_924 dL_law_925 ?_
  refine g_aload_n (x := some (mm + 59)) X dL_law_926 rfl rfl ?_
  refine law_cls (As := [vR (some x), vI (xs (j + 1)), vR (some (mm + 59))]) (mc := 1) (ms := 6) (np := 3) (K_pass S hi) T3 (pr_f_X11_pass rfl rfl) (fun M v M2 h a ha => (pj_f_X14_pass ⟨Nat.le_refl _, fun _ _ => rfl⟩ _ h).2 a ha) X (fun v M1 h1 h2 h3 => mw_pass l hlx hH T1 h1 h2 h3) (fun M1 h => mw_pass_t1 l hlx hH T1 h) (fun hc => absurd hc (by decide)) (vx_cwSW 3 X.2.2.1 (gMono gL_law_L_pass) rfl rfl rfl (by decide +kernel) ⟨Nat.le_of_ble_eq_true rfl, Nat.le_of_ble_eq_true rfl⟩) rfl rfl dL_law_927 dL_law_930 ⟨by omega, by omega⟩ ?_
  rintro cd M1 ⟨⟨t1, l1⟩, v, M2, g1, g2, g3, g4⟩
  refine g_sub (lvsub_of _ ((5, vI cd) :: lLv b x mm j) [0, 1, 2, 3, 4, 5] rfl) ?_
  refine g_aload_n (x := some mm) X dL_law_932 rfl rfl ?_
  refine law_arg (i := j) (j := 1) X hX hb hL (by omega) rfl (by decide) rfl rfl dL_law_933 dL_law_934 dL_law_936 dL_law_937 dL_law_938 ?_
  refine g_callV (ci := 12) (b := mm) (As := [vI (xs (j + 1))]) (st := []) (v := some (vI v)) (M1 := M2) (gX_w (gX_w3 X)) (m_X14_pass l g1) (cwV 1 X.2.2.1 (gMono gL_law_X14_pass) rfl rfl rfl (by decide +kernel) ⟨Nat.le_of_ble_eq_true rfl, Nat.le_of_ble_eq_true rfl⟩) rfl rfl rfl (by rw [t1]; exact T2) (by decide) rfl (Nat.le_of_ble_eq_true rfl) dL_law_939 ⟨(show _ ≤ 601024 by omega), (show _ ≤ 7293034 by omega)⟩ ?_
  obtain ⟨-, U2, -, U4, U5⟩ := LIv_T g3.1
  exact law_tail X ⟨dL_law_942, dL_law_944, dL_law_945, dL_law_948, dL_law_950, dL_law_955, dL_law_957, dL_law_960, dL_law_961, dL_law_962, dL_law_963, dL_law_965, dL_law_966, dL_law_967, _, dL_law_972, by decide⟩ U2 g2 U4 U5 g4 ⟨by omega, by omega⟩ (g_wide (by omega) (by omega) (kk M2 g3.1))
set_option maxRecDepth 20000 in
theorem law_c_foresee (hlx : l.stackTraces = false) (hH : H0.size = B) (X : gXL p s m b meth c D cy B Z H0) (hX : va_X b L xs s H0) (hb : b < B) (hL : L ≤ 3072) (hj : j + 5 < L) (S : LIv Z x mm i M) (hi : i ≤ 600) (hf : k + 160 ≤ 601024 ∧ n + 1600 ≤ 7293034) (kk : ∀ M', LIv Z x mm (i + 1) M' → gGL p l e s m b below meth c D cy B H0 (k + 160) (n + 1600) Q 1290 (lLv b x mm j) [] M') : gGL p l e s m b below meth c D cy B H0 k n Q 975 (lLv b x mm j) [] M := by
  obtain ⟨T1, T2, T3, -, -⟩ := LIv_T S
  refine g_aload_n (x := some x) X dL_law_975 rfl rfl ?_
  refine law_arg (i := j) (j := 1) X hX hb hL (by omega) rfl (by decide) rfl rfl dL_law_976 dL_law_977 dL_law_979 dL_law_980 dL_law_981 ?_
  refine law_arg (i := j) (j := 2) X hX hb hL (by omega) rfl (by decide) rfl rfl dL_law_982 dL_law_983 dL_law_985 dL_law_986 dL_law_987 ?_
  refine g_aload_n (x := some (mm + 59)) X dL_law_988 rfl rfl ?_
  refine law_cls (As := [vR (some x), vI (xs (j + 1)), vI (xs (j + 2)), vR (some (mm + 59))]) (mc := 2) (ms := 12) (np := 4) (K_foresee S hi) T3 (pr_f_X11_foresee rfl rfl) (fun M v M2 h a ha => (pj_f_X14_foresee ⟨Nat.le_refl _, fun _ _ => rfl⟩ _ h).2 a ha) X (fun v M1 h1 h2 h3 => mw_foresee l hlx hH T1 h1 h2 h3) (fun M1 h => mw_foresee_t1 l hlx hH T1 h) (fun _ M1 h => mw_foresee_t2 l hlx hH T1 h) (vx_cwSW 4 X.2.2.1 (good2 gL_law_L_foresee (by simp [wsL_xw]) (by simp [wsL_xw]) (by decide +kernel) (by decide +kernel)) rfl rfl rfl (by decide +kernel) ⟨Nat.le_of_ble_eq_true rfl, Nat.le_of_ble_eq_true rfl⟩) rfl rfl dL_law_989 dL_law_992 ⟨by omega, by omega⟩ ?_
  rintro cd M1 ⟨⟨t1, l1⟩, v, M2, g1, g2, g3, g4⟩
  refine g_sub (lvsub_of _ ((5, vI cd) :: lLv b x mm j) [0, 1, 2, 3, 4, 5] rfl) ?_
  refine g_aload_n (x := some mm) X dL_law_994 rfl rfl ?_
  refine law_arg (i := j) (j := 1) X hX hb hL (by omega) rfl (by decide) rfl rfl dL_law_995 dL_law_996 dL_law_998 dL_law_999 dL_law_1000 ?_
  refine law_arg (i := j) (j := 2) X hX hb hL (by omega) rfl (by decide) rfl rfl dL_law_1001 dL_law_1002 dL_law_1004 dL_law_1005 dL_law_1006 ?_
  refine g_callV (ci := 12) (b := mm) (As := [vI (xs (j + 1)), vI (xs (j + 2))]) (st := []) (v := some (vI v)) (M1 := M2) (gX_w (gX_w3 X)) (m_X14_foresee l g1) (cwV 2 X.2.2.1 (gMono gL_law_X14_foresee) rfl rfl rfl (by decide +kernel) ⟨Nat.le_of_ble_eq_true rfl, Nat.le_of_ble_eq_true rfl⟩) rfl rfl rfl (by rw [t1]; exact T2) (by decide) rfl (Nat.le_of_ble_eq_true rfl) dL_law_1007 ⟨(show _ ≤ 601024 by omega), (show _ ≤ 7293034 by omega)⟩ ?_
  obtain ⟨-, U2, -, U4, U5⟩ := LIv_T g3.1
  exact law_tail X ⟨dL_law_1010, dL_law_1012, dL_law_1013, dL_law_1016, dL_law_1018, dL_law_1023, dL_law_1025, dL_law_1028, dL_law_1029, dL_law_1030, dL_law_1031, dL_law_1033, dL_law_1034, dL_law_1035, _, dL_law_1040, by decide⟩ U2 g2 U4 U5 g4 ⟨by omega, by omega⟩ (g_wide (by omega) (by omega) (kk M2 g3.1))
set_option maxRecDepth 20000 in
theorem law_c_pays (hlx : l.stackTraces = false) (hH : H0.size = B) (X : gXL p s m b meth c D cy B Z H0) (hX : va_X b L xs s H0) (hb : b < B) (hL : L ≤ 3072) (hj : j + 5 < L) (S : LIv Z x mm i M) (hi : i ≤ 600) (hf : k + 160 ≤ 601024 ∧ n + 1600 ≤ 7293034) (kk : ∀ M', LIv Z x mm (i + 1) M' → gGL p l e s m b below meth c D cy B H0 (k + 160) (n + 1600) Q 1290 (lLv b x mm j) [] M') : gGL p l e s m b below meth c D cy B H0 k n Q 1043 (lLv b x mm j) [] M := by
  obtain ⟨T1, T2, T3, -, -⟩ := LIv_T S
  refine g_aload_n (x := some x) X dL_law_1043 rfl rfl ?_
  refine law_arg (i := j) (j := 1) X hX hb hL (by omega) rfl (by decide) rfl rfl dL_law_1044 dL_law_1045 dL_law_1047 dL_law_1048 dL_law_1049 ?_
  refine law_arg (i := j) (j := 2) X hX hb hL (by omega) rfl (by decide) rfl rfl dL_law_1050 dL_law_1051 dL_law_1053 dL_law_1054 dL_law_1055 ?_
  refine g_aload_n (x := some (mm + 59)) X dL_law_1056 rfl rfl ?_
  refine law_cls (As := [vR (some x), vI (xs (j + 1)), vI (xs (j + 2)), vR (some (mm + 59))]) (mc := 2) (ms := 12) (np := 4) (K_pays S hi) T3 (pr_f_X11_pays rfl rfl) (fun M v M2 h a ha => (pj_f_X14_pays ⟨Nat.le_refl _, fun _ _ => rfl⟩ _ h).2 a ha) X (fun v M1 h1 h2 h3 => mw_pays l hlx hH T1 h1 h2 h3) (fun M1 h => mw_pays_t1 l hlx hH T1 h) (fun _ M1 h => mw_pays_t2 l hlx hH T1 h) (vx_cwSW 4 X.2.2.1 (good2 gL_law_L_pays (by simp [wsL_xw]) (by simp [wsL_xw]) (by decide +kernel) (by decide +kernel)) rfl rfl rfl (by decide +kernel) ⟨Nat.le_of_ble_eq_true rfl, Nat.le_of_ble_eq_true rfl⟩) rfl rfl dL_law_1057 dL_law_1060 ⟨by omega, by omega⟩ ?_
  rintro cd M1 ⟨⟨t1, l1⟩, v, M2, g1, g2, g3, g4⟩
  refine g_sub (lvsub_of _ ((5, vI cd) :: lLv b x mm j) [0, 1, 2, 3, 4, 5] rfl) ?_
  refine g_aload_n (x := some mm) X dL_law_1062 rfl rfl ?_
  refine law_arg (i := j) (j := 1) X hX hb hL (by omega) rfl (by decide) rfl rfl dL_law_1063 dL_law_1064 dL_law_1066 dL_law_1067 dL_law_1068 ?_
  refine law_arg (i := j) (j := 2) X hX hb hL (by omega) rfl (by decide) rfl rfl dL_law_1069 dL_law_1070 dL_law_1072 dL_law_1073 dL_law_1074 ?_
  refine g_callV (ci := 12) (b := mm) (As := [vI (xs (j + 1)), vI (xs (j + 2))]) (st := []) (v := some (vI v)) (M1 := M2) (gX_w (gX_w3 X)) (m_X14_pays l g1) (cwV 2 X.2.2.1 (gMono gL_law_X14_pays) rfl rfl rfl (by decide +kernel) ⟨Nat.le_of_ble_eq_true rfl, Nat.le_of_ble_eq_true rfl⟩) rfl rfl rfl (by rw [t1]; exact T2) (by decide) rfl (Nat.le_of_ble_eq_true rfl) dL_law_1075 ⟨(show _ ≤ 601024 by omega), (show _ ≤ 7293034 by omega)⟩ ?_
  obtain ⟨-, U2, -, U4, U5⟩ := LIv_T g3.1
  exact law_tail X ⟨dL_law_1078, dL_law_1080, dL_law_1081, dL_law_1084, dL_law_1086, dL_law_1091, dL_law_1093, dL_law_1096, dL_law_1097, dL_law_1098, dL_law_1099, dL_law_1101, dL_law_1102, dL_law_1103, _, dL_law_1108, by decide⟩ U2 g2 U4 U5 g4 ⟨by omega, by omega⟩ (g_wide (by omega) (by omega) (kk M2 g3.1))
set_option maxRecDepth 20000 in
theorem law_c_empty (hlx : l.stackTraces = false) (hH : H0.size = B) (X : gXL p s m b meth c D cy B Z H0) (hX : va_X b L xs s H0) (hb : b < B) (hL : L ≤ 3072) (hj : j + 5 < L) (S : LIv Z x mm i M) (hi : i ≤ 600) (hf : k + 160 ≤ 601024 ∧ n + 1600 ≤ 7293034) (kk : ∀ M', LIv Z x mm (i + 1) M' → gGL p l e s m b below meth c D cy B H0 (k + 160) (n + 1600) Q 1290 (lLv b x mm j) [] M') : gGL p l e s m b below meth c D cy B H0 k n Q 1111 (lLv b x mm j) [] M := by
  obtain ⟨T1, T2, T3, -, -⟩ := LIv_T S
  refine g_aload_n (x := some x) X dL_law_1111 rfl rfl ?_
  refine law_arg (i := j) (j := 1) X hX hb hL (by omega) rfl (by decide) rfl rfl dL_law_1112 dL_law_1113 dL_law_1115 dL_law_1116 dL_law_1117 ?_
  refine g_aload_n (x := some (mm + 59)) X dL_law_1118 rfl rfl ?_
  refine law_cls (As := [vR (some x), vI (xs (j + 1)), vR (some (mm + 59))]) (mc := 1) (ms := 6) (np := 3) (K_empty S hi) T3 (pr_f_X11_empty rfl rfl) (fun M v M2 h a ha => (pj_f_X14_empty ⟨Nat.le_refl _, fun _ _ => rfl⟩ _ h).2 a ha) X (fun v M1 h1 h2 h3 => mw_empty l hlx hH T1 h1 h2 h3) (fun M1 h => mw_empty_t1 l hlx hH T1 h) (fun hc => absurd hc (by decide)) (vx_cwSW 3 X.2.2.1 (gMono gL_law_L_empty) rfl rfl rfl (by decide +kernel) ⟨Nat.le_of_ble_eq_true rfl, Nat.le_of_ble_eq_true rfl⟩) rfl rfl dL_law_1119 dL_law_1122 ⟨by omega, by omega⟩ ?_
  rintro cd M1 ⟨⟨t1, l1⟩, v, M2, g1, g2, g3, g4⟩
  refine g_sub (lvsub_of _ ((5, vI cd) :: lLv b x mm j) [0, 1, 2, 3, 4, 5] rfl) ?_
  refine g_aload_n (x := some mm) X dL_law_1124 rfl rfl ?_
  refine law_arg (i := j) (j := 1) X hX hb hL (by omega) rfl (by decide) rfl rfl dL_law_1125 dL_law_1126 dL_law_1128 dL_law_1129 dL_law_1130 ?_
  refine g_callV (ci := 12) (b := mm) (As := [vI (xs (j + 1))]) (st := []) (v := some (vI v)) (M1 := M2) (gX_w (gX_w3 X)) (m_X14_empty l g1) (cwV 1 X.2.2.1 (gMono gL_law_X14_empty) rfl rfl rfl (by decide +kernel) ⟨Nat.le_of_ble_eq_true rfl, Nat.le_of_ble_eq_true rfl⟩) rfl rfl rfl (by rw [t1]; exact T2) (by decide) rfl (Nat.le_of_ble_eq_true rfl) dL_law_1131 ⟨(show _ ≤ 601024 by omega), (show _ ≤ 7293034 by omega)⟩ ?_
  obtain ⟨-, U2, -, U4, U5⟩ := LIv_T g3.1
  exact law_tail X ⟨dL_law_1134, dL_law_1136, dL_law_1137, dL_law_1140, dL_law_1142, dL_law_1147, dL_law_1149, dL_law_1152, dL_law_1153, dL_law_1154, dL_law_1155, dL_law_1157, dL_law_1158, dL_law_1159, _, dL_law_1164, by decide⟩ U2 g2 U4 U5 g4 ⟨by omega, by omega⟩ (g_wide (by omega) (by omega) (kk M2 g3.1))
set_option maxRecDepth 20000 in
theorem law_c_advise (hlx : l.stackTraces = false) (hH : H0.size = B) (X : gXL p s m b meth c D cy B Z H0) (hX : va_X b L xs s H0) (hb : b < B) (hL : L ≤ 3072) (hj : j + 5 < L) (S : LIv Z x mm i M) (hi : i ≤ 600) (hf : k + 160 ≤ 601024 ∧ n + 1600 ≤ 7293034) (kk : ∀ M', LIv Z x mm (i + 1) M' → gGL p l e s m b below meth c D cy B H0 (k + 160) (n + 1600) Q 1290 (lLv b x mm j) [] M') : gGL p l e s m b below meth c D cy B H0 k n Q 1167 (lLv b x mm j) [] M := by
  obtain ⟨T1, T2, T3, -, -⟩ := LIv_T S
  refine g_aload_n (x := some x) X dL_law_1167 rfl rfl ?_
  refine law_arg (i := j) (j := 1) X hX hb hL (by omega) rfl (by decide) rfl rfl dL_law_1168 dL_law_1169 dL_law_1171 dL_law_1172 dL_law_1173 ?_
  refine law_arg (i := j) (j := 2) X hX hb hL (by omega) rfl (by decide) rfl rfl dL_law_1174 dL_law_1175 dL_law_1177 dL_law_1178 dL_law_1179 ?_
  refine g_aload_n (x := some (mm + 59)) X dL_law_1180 rfl rfl ?_
  refine law_cls (As := [vR (some x), vI (xs (j + 1)), vI (xs (j + 2)), vR (some (mm + 59))]) (mc := 2) (ms := 12) (np := 4) (K_advise S hi) T3 (pr_f_X11_advise rfl rfl) (fun M v M2 h a ha => (pj_f_X14_advise ⟨Nat.le_refl _, fun _ _ => rfl⟩ _ h).2 a ha) X (fun v M1 h1 h2 h3 => mw_advise l hlx hH T1 h1 h2 h3) (fun M1 h => mw_advise_t1 l hlx hH T1 h) (fun _ M1 h => mw_advise_t2 l hlx hH T1 h) (vx_cwSW 4 X.2.2.1 (good2 gL_law_L_advise (by simp [wsL_xw]) (by simp [wsL_xw]) (by decide +kernel) (by decide +kernel)) rfl rfl rfl (by decide +kernel) ⟨Nat.le_of_ble_eq_true rfl, Nat.le_of_ble_eq_true rfl⟩) rfl rfl dL_law_1181 dL_law_1184 ⟨by omega, by omega⟩ ?_
  rintro cd M1 ⟨⟨t1, l1⟩, v, M2, g1, g2, g3, g4⟩
  refine g_sub (lvsub_of _ ((5, vI cd) :: lLv b x mm j) [0, 1, 2, 3, 4, 5] rfl) ?_
  refine g_aload_n (x := some mm) X dL_law_1186 rfl rfl ?_
  refine law_arg (i := j) (j := 1) X hX hb hL (by omega) rfl (by decide) rfl rfl dL_law_1187 dL_law_1188 dL_law_1190 dL_law_1191 dL_law_1192 ?_
  refine law_arg (i := j) (j := 2) X hX hb hL (by omega) rfl (by decide) rfl rfl dL_law_1193 dL_law_1194 dL_law_1196 dL_law_1197 dL_law_1198 ?_
  refine g_callV (ci := 12) (b := mm) (As := [vI (xs (j + 1)), vI (xs (j + 2))]) (st := []) (v := some (vI v)) (M1 := M2) (gX_w (gX_w3 X)) (m_X14_advise l g1) (cwV 2 X.2.2.1 (gMono gL_law_X14_advise) rfl rfl rfl (by decide +kernel) ⟨Nat.le_of_ble_eq_true rfl, Nat.le_of_ble_eq_true rfl⟩) rfl rfl rfl (by rw [t1]; exact T2) (by decide) rfl (Nat.le_of_ble_eq_true rfl) dL_law_1199 ⟨(show _ ≤ 601024 by omega), (show _ ≤ 7293034 by omega)⟩ ?_
  obtain ⟨-, U2, -, U4, U5⟩ := LIv_T g3.1
  exact law_tail X ⟨dL_law_1202, dL_law_1204, dL_law_1205, dL_law_1208, dL_law_1210, dL_law_1215, dL_law_1217, dL_law_1220, dL_law_1221, dL_law_1222, dL_law_1223, dL_law_1225, dL_law_1226, dL_law_1227, _, dL_law_1232, by decide⟩ U2 g2 U4 U5 g4 ⟨by omega, by omega⟩ (g_wide (by omega) (by omega) (kk M2 g3.1))
end GLAW3
