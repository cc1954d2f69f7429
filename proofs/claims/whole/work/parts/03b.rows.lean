/-! Every method's words in rows of 24: a word by its row and its place there -/
theorem goodIn_rr {big : List Cond} {B : List (List Cond)} (hB : ∀ w ∈ B.flatten, w ∈ big) (ws : List Cond) (ps : List (Nat × Nat)) (hp : ws = ps.filterMap (fun q => (B.getD q.1 [])[q.2]?)) (h : ws.all goodWord = true) : GoodIn big ws := by
  intro w hw
  have h1 := List.all_eq_true.mp h w hw
  rw [hp] at hw
  obtain ⟨q, -, hi⟩ := List.mem_filterMap.mp hw
  have hm : w ∈ B.getD q.1 [] := List.mem_of_getElem? hi
  have hx : w ∈ B.flatten := by
    rw [List.getD_eq_getElem?_getD] at hm
    cases hq : B[q.1]? with
    | none => rw [hq] at hm; exact absurd hm List.not_mem_nil
    | some l => rw [hq] at hm; exact List.mem_flatten.mpr ⟨l, List.mem_of_getElem? hq, hm⟩
  exact ⟨hB w hx, good_of_word h1⟩
def wsB_J0_indexOf_0f7a4 : List (List Cond) := [[.code yJ0_indexOf_0f7a4 cJ0_indexOf_0f7a4 2 (some .int)], wsJ0_indexOf_0f7a4_r1, wsJ0_indexOf_0f7a4_r2, wsJ0_indexOf_0f7a4_r3, wsJ0_indexOf_0f7a4_r4]
theorem wsB_J0_indexOf_0f7a4_in : ∀ w ∈ wsB_J0_indexOf_0f7a4.flatten, w ∈ wsJ0_indexOf_0f7a4 := fun w h => by
  have hq : wsJ0_indexOf_0f7a4 = wsB_J0_indexOf_0f7a4.flatten := by
    simp only [wsJ0_indexOf_0f7a4, wsB_J0_indexOf_0f7a4, List.flatten_cons, List.flatten_nil, List.append_assoc, List.append_nil, List.cons_append, List.nil_append]
  rw [hq]
  exact h
def wsB_J0_indexOf_7cf53 : List (List Cond) := [[.code yJ0_indexOf_7cf53 cJ0_indexOf_7cf53 3 (some .int)], wsJ0_indexOf_7cf53_r1, wsJ0_indexOf_7cf53_r2, wsJ0_indexOf_7cf53_r3, wsJ0_indexOf_7cf53_r4]
theorem wsB_J0_indexOf_7cf53_in : ∀ w ∈ wsB_J0_indexOf_7cf53.flatten, w ∈ wsJ0_indexOf_7cf53 := fun w h => by
  have hq : wsJ0_indexOf_7cf53 = wsB_J0_indexOf_7cf53.flatten := by
    simp only [wsJ0_indexOf_7cf53, wsB_J0_indexOf_7cf53, List.flatten_cons, List.flatten_nil, List.append_assoc, List.append_nil, List.cons_append, List.nil_append]
  rw [hq]
  exact h
def wsB_L_advise : List (List Cond) := [[.codeWith yL_advise cL_advise 5 (some .int) [(0, 10, 13, 24), (0, 10, 17, 19)]], wsL_advise_r1, wsL_advise_r2, wsL_advise_r3, wsL_advise_r4, wsL_advise_r5, wsL_advise_r6, wsL_advise_r7, wsL_advise_r8, wsL_advise_r9, wsL_advise_r10, wsX70, wsX10, wsX110, wsX30, wsX20, wsX50, wsX90, (vx_atS RX11 96 "java/lang/IndexOutOfBoundsException" ["java/lang/RuntimeException", "java/lang/Exception"]).filter goodWord, (vx_atS RX11 48 "java/lang/IllegalArgumentException" ["java/lang/RuntimeException", "java/lang/Exception"]).filter goodWord]
theorem wsB_L_advise_in : ∀ w ∈ wsB_L_advise.flatten, w ∈ wsL_advise := fun w h => by
  have hq : wsL_advise = wsB_L_advise.flatten := by
    simp only [wsL_advise, wsB_L_advise, List.flatten_cons, List.flatten_nil, List.append_assoc, List.append_nil, List.cons_append, List.nil_append]
  rw [hq]
  exact h
def wsB_L_count : List (List Cond) := [[.codeWith yL_count cL_count 4 (some .int) [(0, 9, 12, 24)]], wsL_count_r1, wsL_count_r2, wsX110, wsX70, wsX100, wsX30, wsX10, (vx_atS RX11 96 "java/lang/IndexOutOfBoundsException" ["java/lang/RuntimeException", "java/lang/Exception"]).filter goodWord]
theorem wsB_L_count_in : ∀ w ∈ wsB_L_count.flatten, w ∈ wsL_count := fun w h => by
  have hq : wsL_count = wsB_L_count.flatten := by
    simp only [wsL_count, wsB_L_count, List.flatten_cons, List.flatten_nil, List.append_assoc, List.append_nil, List.cons_append, List.nil_append]
  rw [hq]
  exact h
def wsB_L_empty : List (List Cond) := [[.codeWith yL_empty cL_empty 4 (some .int) [(0, 9, 12, 24)]], wsL_empty_r1, wsL_empty_r2, wsL_empty_r3, wsL_empty_r4, wsL_empty_r5, wsL_empty_r6, wsL_empty_r7, wsL_empty_r8, wsL_empty_r9, wsL_empty_r10, wsX70, wsX110, wsX30, wsX10, wsX20, wsX50, wsX90, (vx_atS RX11 96 "java/lang/IndexOutOfBoundsException" ["java/lang/RuntimeException", "java/lang/Exception"]).filter goodWord]
theorem wsB_L_empty_in : ∀ w ∈ wsB_L_empty.flatten, w ∈ wsL_empty := fun w h => by
  have hq : wsL_empty = wsB_L_empty.flatten := by
    simp only [wsL_empty, wsB_L_empty, List.flatten_cons, List.flatten_nil, List.append_assoc, List.append_nil, List.cons_append, List.nil_append]
  rw [hq]
  exact h
def wsB_L_foresee : List (List Cond) := [[.codeWith yL_foresee cL_foresee 5 (some .int) [(0, 10, 13, 19), (0, 10, 17, 24)]], wsL_foresee_r1, wsL_foresee_r2, wsL_foresee_r3, wsL_foresee_r4, wsL_foresee_r5, wsL_foresee_r6, wsL_foresee_r7, wsL_foresee_r8, wsL_foresee_r9, wsL_foresee_r10, wsX110, wsX70, wsX30, wsX10, wsX20, wsX50, wsX90, (vx_atS RX11 96 "java/lang/IndexOutOfBoundsException" ["java/lang/RuntimeException", "java/lang/Exception"]).filter goodWord, (vx_atS RX11 48 "java/lang/IllegalArgumentException" ["java/lang/RuntimeException", "java/lang/Exception"]).filter goodWord]
theorem wsB_L_foresee_in : ∀ w ∈ wsB_L_foresee.flatten, w ∈ wsL_foresee := fun w h => by
  have hq : wsL_foresee = wsB_L_foresee.flatten := by
    simp only [wsL_foresee, wsB_L_foresee, List.flatten_cons, List.flatten_nil, List.append_assoc, List.append_nil, List.cons_append, List.nil_append]
  rw [hq]
  exact h
def wsB_L_pass : List (List Cond) := [[.codeWith yL_pass cL_pass 4 (some .int) [(0, 9, 12, 19)]], wsL_pass_r1, wsL_pass_r2, wsL_pass_r3, wsL_pass_r4, wsL_pass_r5, wsL_pass_r6, wsL_pass_r7, wsX110, wsX70, wsX30, wsX20, wsX90, wsX10, wsX50, (vx_atS RX11 48 "java/lang/IllegalArgumentException" ["java/lang/RuntimeException", "java/lang/Exception"]).filter goodWord]
theorem wsB_L_pass_in : ∀ w ∈ wsB_L_pass.flatten, w ∈ wsL_pass := fun w h => by
  have hq : wsL_pass = wsB_L_pass.flatten := by
    simp only [wsL_pass, wsB_L_pass, List.flatten_cons, List.flatten_nil, List.append_assoc, List.append_nil, List.cons_append, List.nil_append]
  rw [hq]
  exact h
def wsB_L_pays : List (List Cond) := [[.codeWith yL_pays cL_pays 5 (some .int) [(0, 10, 13, 24), (0, 10, 17, 19)]], wsL_pays_r1, wsL_pays_r2, wsL_pays_r3, wsL_pays_r4, wsL_pays_r5, wsL_pays_r6, wsL_pays_r7, wsL_pays_r8, wsL_pays_r9, wsL_pays_r10, wsX70, wsX10, wsX110, wsX30, wsX20, wsX50, wsX90, (vx_atS RX11 96 "java/lang/IndexOutOfBoundsException" ["java/lang/RuntimeException", "java/lang/Exception"]).filter goodWord, (vx_atS RX11 48 "java/lang/IllegalArgumentException" ["java/lang/RuntimeException", "java/lang/Exception"]).filter goodWord]
theorem wsB_L_pays_in : ∀ w ∈ wsB_L_pays.flatten, w ∈ wsL_pays := fun w h => by
  have hq : wsL_pays = wsB_L_pays.flatten := by
    simp only [wsL_pays, wsB_L_pays, List.flatten_cons, List.flatten_nil, List.append_assoc, List.append_nil, List.cons_append, List.nil_append]
  rw [hq]
  exact h
def wsB_X10_reads : List (List Cond) := [[.code yX10_reads cX10_reads 5 (some .boolean)], wsX10_reads_r1, wsX10_reads_r2, wsX10_reads_r3, wsX100]
theorem wsB_X10_reads_in : ∀ w ∈ wsB_X10_reads.flatten, w ∈ wsX10_reads := fun w h => by
  have hq : wsX10_reads = wsB_X10_reads.flatten := by
    simp only [wsX10_reads, wsB_X10_reads, List.flatten_cons, List.flatten_nil, List.append_assoc, List.append_nil, List.cons_append, List.nil_append]
  rw [hq]
  exact h
def wsB_X10_scan : List (List Cond) := [[.code yX10_scan cX10_scan 2 none], wsX10_scan_r1, wsX10_scan_r2, wsX10_scan_r3, wsX10_scan_r4, wsX10_scan_r5, wsX100]
theorem wsB_X10_scan_in : ∀ w ∈ wsB_X10_scan.flatten, w ∈ wsX10_scan := fun w h => by
  have hq : wsX10_scan = wsB_X10_scan.flatten := by
    simp only [wsX10_scan, wsB_X10_scan, List.flatten_cons, List.flatten_nil, List.append_assoc, List.append_nil, List.cons_append, List.nil_append]
  rw [hq]
  exact h
def wsB_X10_scanSymbol : List (List Cond) := [[.code yX10_scanSymbol cX10_scanSymbol 3 (some (.object "TideLots$Sign"))], wsX10_scanSymbol_r1, wsX10_scanSymbol_r2, wsX10_scanSymbol_r3, wsX100]
theorem wsB_X10_scanSymbol_in : ∀ w ∈ wsB_X10_scanSymbol.flatten, w ∈ wsX10_scanSymbol := fun w h => by
  have hq : wsX10_scanSymbol = wsB_X10_scanSymbol.flatten := by
    simp only [wsX10_scanSymbol, wsB_X10_scanSymbol, List.flatten_cons, List.flatten_nil, List.append_assoc, List.append_nil, List.cons_append, List.nil_append]
  rw [hq]
  exact h
def wsB_X10_scanToken : List (List Cond) := [[.code yX10_scanToken cX10_scanToken 2 (some (.object "TideLots$Sign"))], wsX10_scanToken_r1, wsX10_scanToken_r2, wsX10_scanToken_r3, wsX10_scanToken_r4, wsX100]
theorem wsB_X10_scanToken_in : ∀ w ∈ wsB_X10_scanToken.flatten, w ∈ wsX10_scanToken := fun w h => by
  have hq : wsX10_scanToken = wsB_X10_scanToken.flatten := by
    simp only [wsX10_scanToken, wsB_X10_scanToken, List.flatten_cons, List.flatten_nil, List.append_assoc, List.append_nil, List.cons_append, List.nil_append]
  rw [hq]
  exact h
def wsB_X10_scanWord : List (List Cond) := [[.code yX10_scanWord cX10_scanWord 6 (some (.object "TideLots$Sign"))], wsX10_scanWord_r1, wsX10_scanWord_r2, wsX10_scanWord_r3, wsX10_scanWord_r4, wsX100]
theorem wsB_X10_scanWord_in : ∀ w ∈ wsB_X10_scanWord.flatten, w ∈ wsX10_scanWord := fun w h => by
  have hq : wsX10_scanWord = wsB_X10_scanWord.flatten := by
    simp only [wsX10_scanWord, wsB_X10_scanWord, List.flatten_cons, List.flatten_nil, List.append_assoc, List.append_nil, List.cons_append, List.nil_append]
  rw [hq]
  exact h
def wsB_X10_signOf : List (List Cond) := [[.code yX10_signOf cX10_signOf 8 (some (.object "TideLots$Sign"))], wsX10_signOf_r1, wsX10_signOf_r2, wsX10_signOf_r3, wsX100]
theorem wsB_X10_signOf_in : ∀ w ∈ wsB_X10_signOf.flatten, w ∈ wsX10_signOf := fun w h => by
  have hq : wsX10_signOf = wsB_X10_signOf.flatten := by
    simp only [wsX10_signOf, wsB_X10_signOf, List.flatten_cons, List.flatten_nil, List.append_assoc, List.append_nil, List.cons_append, List.nil_append]
  rw [hq]
  exact h
def wsB_X11_advise : List (List Cond) := [[.code yX11_advise cX11_advise 7 (some .int)], wsX11_advise_r1, wsX11_advise_r2, wsX11_advise_r3, wsX11_advise_r4, wsX11_advise_r5, wsX11_advise_r6, wsX11_advise_r7, wsX11_advise_r8, wsX11_advise_r9, wsX11_advise_r10, wsX70, wsX10, wsX110, wsX30, wsX20, wsX50, wsX90, (vx_atS RX11 96 "java/lang/IndexOutOfBoundsException" ["java/lang/RuntimeException", "java/lang/Exception"]).filter goodWord, (vx_atS RX11 48 "java/lang/IllegalArgumentException" ["java/lang/RuntimeException", "java/lang/Exception"]).filter goodWord]
theorem wsB_X11_advise_in : ∀ w ∈ wsB_X11_advise.flatten, w ∈ wsX11_advise := fun w h => by
  have hq : wsX11_advise = wsB_X11_advise.flatten := by
    simp only [wsX11_advise, wsB_X11_advise, List.flatten_cons, List.flatten_nil, List.append_assoc, List.append_nil, List.cons_append, List.nil_append]
  rw [hq]
  exact h
def wsB_X11_count : List (List Cond) := [[.code yX11_count cX11_count 2 (some .int)], wsX11_count_r1, wsX11_count_r2, wsX110, wsX70, wsX100, wsX30, wsX10, (vx_atS RX11 96 "java/lang/IndexOutOfBoundsException" ["java/lang/RuntimeException", "java/lang/Exception"]).filter goodWord]
theorem wsB_X11_count_in : ∀ w ∈ wsB_X11_count.flatten, w ∈ wsX11_count := fun w h => by
  have hq : wsX11_count = wsB_X11_count.flatten := by
    simp only [wsX11_count, wsB_X11_count, List.flatten_cons, List.flatten_nil, List.append_assoc, List.append_nil, List.cons_append, List.nil_append]
  rw [hq]
  exact h
def wsB_X11_digest : List (List Cond) := [[.code yX11_digest cX11_digest 5 (some .long)], wsX11_digest_r1, wsX11_digest_r2, wsX11_digest_r3, wsX11_digest_r4, wsX11_digest_r5, wsX110, wsX70, wsX100, wsX30, wsX10, wsX50, (vx_atS RX11 96 "java/lang/IndexOutOfBoundsException" ["java/lang/RuntimeException", "java/lang/Exception"]).filter goodWord]
theorem wsB_X11_digest_in : ∀ w ∈ wsB_X11_digest.flatten, w ∈ wsX11_digest := fun w h => by
  have hq : wsX11_digest = wsB_X11_digest.flatten := by
    simp only [wsX11_digest, wsB_X11_digest, List.flatten_cons, List.flatten_nil, List.append_assoc, List.append_nil, List.cons_append, List.nil_append]
  rw [hq]
  exact h
def wsB_X11_empty : List (List Cond) := [[.code yX11_empty cX11_empty 4 (some .int)], wsX11_empty_r1, wsX11_empty_r2, wsX11_empty_r3, wsX11_empty_r4, wsX11_empty_r5, wsX11_empty_r6, wsX11_empty_r7, wsX11_empty_r8, wsX11_empty_r9, wsX70, wsX110, wsX30, wsX10, wsX20, wsX50, wsX90, (vx_atS RX11 96 "java/lang/IndexOutOfBoundsException" ["java/lang/RuntimeException", "java/lang/Exception"]).filter goodWord]
theorem wsB_X11_empty_in : ∀ w ∈ wsB_X11_empty.flatten, w ∈ wsX11_empty := fun w h => by
  have hq : wsX11_empty = wsB_X11_empty.flatten := by
    simp only [wsX11_empty, wsB_X11_empty, List.flatten_cons, List.flatten_nil, List.append_assoc, List.append_nil, List.cons_append, List.nil_append]
  rw [hq]
  exact h
def wsB_X11_foresee : List (List Cond) := [[.code yX11_foresee cX11_foresee 4 (some .int)], wsX11_foresee_r1, wsX11_foresee_r2, wsX11_foresee_r3, wsX11_foresee_r4, wsX11_foresee_r5, wsX11_foresee_r6, wsX11_foresee_r7, wsX11_foresee_r8, wsX11_foresee_r9, wsX11_foresee_r10, wsX110, wsX70, wsX30, wsX10, wsX20, wsX50, wsX90, (vx_atS RX11 96 "java/lang/IndexOutOfBoundsException" ["java/lang/RuntimeException", "java/lang/Exception"]).filter goodWord, (vx_atS RX11 48 "java/lang/IllegalArgumentException" ["java/lang/RuntimeException", "java/lang/Exception"]).filter goodWord]
theorem wsB_X11_foresee_in : ∀ w ∈ wsB_X11_foresee.flatten, w ∈ wsX11_foresee := fun w h => by
  have hq : wsX11_foresee = wsB_X11_foresee.flatten := by
    simp only [wsX11_foresee, wsB_X11_foresee, List.flatten_cons, List.flatten_nil, List.append_assoc, List.append_nil, List.cons_append, List.nil_append]
  rw [hq]
  exact h
def wsB_X11_init : List (List Cond) := [[.code yX11_init cX11_init 1 none], wsX11_init_r1, wsX11_init_r2, wsX11_init_r3, wsX11_init_r4, wsX100, wsX110, wsX70, wsX90, wsX30, wsX10, wsX50, wsX20]
theorem wsB_X11_init_in : ∀ w ∈ wsB_X11_init.flatten, w ∈ wsX11_init := fun w h => by
  have hq : wsX11_init = wsB_X11_init.flatten := by
    simp only [wsX11_init, wsB_X11_init, List.flatten_cons, List.flatten_nil, List.append_assoc, List.append_nil, List.cons_append, List.nil_append]
  rw [hq]
  exact h
def wsB_X11_lookAhead : List (List Cond) := [[.code yX11_lookAhead cX11_lookAhead 1 (some (.object "TideLots$Shore"))], wsX11_lookAhead_r1, wsX11_lookAhead_r2, wsX11_lookAhead_r3, wsX11_lookAhead_r4, wsX110, wsX70, wsX30, wsX10, wsX20, wsX50, wsX90]
theorem wsB_X11_lookAhead_in : ∀ w ∈ wsB_X11_lookAhead.flatten, w ∈ wsX11_lookAhead := fun w h => by
  have hq : wsX11_lookAhead = wsB_X11_lookAhead.flatten := by
    simp only [wsX11_lookAhead, wsB_X11_lookAhead, List.flatten_cons, List.flatten_nil, List.append_assoc, List.append_nil, List.cons_append, List.nil_append]
  rw [hq]
  exact h
def wsB_X11_pass : List (List Cond) := [[.code yX11_pass cX11_pass 2 (some .int)], wsX11_pass_r1, wsX11_pass_r2, wsX11_pass_r3, wsX11_pass_r4, wsX11_pass_r5, wsX11_pass_r6, wsX11_pass_r7, wsX110, wsX70, wsX30, wsX20, wsX90, wsX10, wsX50, (vx_atS RX11 48 "java/lang/IllegalArgumentException" ["java/lang/RuntimeException", "java/lang/Exception"]).filter goodWord]
theorem wsB_X11_pass_in : ∀ w ∈ wsB_X11_pass.flatten, w ∈ wsX11_pass := fun w h => by
  have hq : wsX11_pass = wsB_X11_pass.flatten := by
    simp only [wsX11_pass, wsB_X11_pass, List.flatten_cons, List.flatten_nil, List.append_assoc, List.append_nil, List.cons_append, List.nil_append]
  rw [hq]
  exact h
def wsB_X11_pays : List (List Cond) := [[.code yX11_pays cX11_pays 5 (some .int)], wsX11_pays_r1, wsX11_pays_r2, wsX11_pays_r3, wsX11_pays_r4, wsX11_pays_r5, wsX11_pays_r6, wsX11_pays_r7, wsX11_pays_r8, wsX11_pays_r9, wsX11_pays_r10, wsX70, wsX10, wsX110, wsX30, wsX20, wsX50, wsX90, (vx_atS RX11 96 "java/lang/IndexOutOfBoundsException" ["java/lang/RuntimeException", "java/lang/Exception"]).filter goodWord, (vx_atS RX11 48 "java/lang/IllegalArgumentException" ["java/lang/RuntimeException", "java/lang/Exception"]).filter goodWord]
theorem wsB_X11_pays_in : ∀ w ∈ wsB_X11_pays.flatten, w ∈ wsX11_pays := fun w h => by
  have hq : wsX11_pays = wsB_X11_pays.flatten := by
    simp only [wsX11_pays, wsB_X11_pays, List.flatten_cons, List.flatten_nil, List.append_assoc, List.append_nil, List.cons_append, List.nil_append]
  rw [hq]
  exact h
def wsB_X11_teach : List (List Cond) := [[.code yX11_teach cX11_teach 4 (some .int)], wsX11_teach_r1, wsX11_teach_r2, wsX11_teach_r3, wsX11_teach_r4, wsX11_teach_r5, wsX11_teach_r6, wsX11_teach_r7, wsX11_teach_r8, wsX11_teach_r9, wsX11_teach_r10, wsX11_teach_r11, wsX11_teach_r12, wsX11_teach_r13, wsX11_teach_r14, wsX11_teach_r15, wsX11_teach_r16, wsX11_teach_r17, wsX110, wsX60, wsX100, wsX70, wsX40, wsX90, wsX30, wsX10, wsX20, wsX50]
theorem wsB_X11_teach_in : ∀ w ∈ wsB_X11_teach.flatten, w ∈ wsX11_teach := fun w h => by
  have hq : wsX11_teach = wsB_X11_teach.flatten := by
    simp only [wsX11_teach, wsB_X11_teach, List.flatten_cons, List.flatten_nil, List.append_assoc, List.append_nil, List.cons_append, List.nil_append]
  rw [hq]
  exact h
def wsB_X12_begin : List (List Cond) := [[.code yX12_begin cX12_begin 7 none], [.fieldLink RX12 3 "TideLotsModel$State" "this$0" "LTideLotsModel;", .fieldLink RX12 19 "TideLotsModel$State" "fish" "[I", .fieldLink RX12 29 "TideLotsModel$State" "mesh" "[I", .classLink RX12 89 "[I", .fieldLink RX12 23 "TideLotsModel$State" "boats" "[I", .fieldLink RX12 26 "TideLotsModel$State" "took" "[I", .fieldLink RX12 32 "TideLotsModel$State" "store" "[I", .fieldLink RX12 35 "TideLotsModel$State" "caught" "[I", .fieldLink RX12 41 "TideLotsModel$State" "tears" "[I", .fieldLink RX12 44 "TideLotsModel$State" "cheats" "[I", .fieldLink RX12 47 "TideLotsModel$State" "shown" "[I", .fieldLink RX12 50 "TideLotsModel$State" "hidden" "[I", .fieldLink RX12 53 "TideLotsModel$State" "hid" "[I", .fieldLink RX12 38 "TideLotsModel$State" "where" "[I", .methodLink RX12 77 yX12_copy, .instanceMethod yX12_copy, .selects RX12 yX12_copy yX12_copy, .initialized RX12, .code yX12_copy cX12_copy 3 none, .methodLink RX12 68 arraycopyName, .native arraycopyName, .static arraycopyName, .initialized "java/lang/System"], wsX120, wsX140, wsX130]
theorem wsB_X12_begin_in : ∀ w ∈ wsB_X12_begin.flatten, w ∈ wsX12_begin := fun w h => by
  have hq : wsX12_begin = wsB_X12_begin.flatten := by
    simp only [wsX12_begin, wsB_X12_begin, List.flatten_cons, List.flatten_nil, List.append_assoc, List.append_nil, List.cons_append, List.nil_append]
  rw [hq]
  exact h
def wsB_X12_canGo : List (List Cond) := [[.code yX12_canGo cX12_canGo 4 (some .boolean)], wsX12_canGo_r1, wsX12_canGo_r2, wsX120, wsX140, wsX130]
theorem wsB_X12_canGo_in : ∀ w ∈ wsB_X12_canGo.flatten, w ∈ wsX12_canGo := fun w h => by
  have hq : wsX12_canGo = wsB_X12_canGo.flatten := by
    simp only [wsX12_canGo, wsB_X12_canGo, List.flatten_cons, List.flatten_nil, List.append_assoc, List.append_nil, List.cons_append, List.nil_append]
  rw [hq]
  exact h
def wsB_X12_carryOut : List (List Cond) := [[.code yX12_carryOut cX12_carryOut 6 (some .int)], wsX12_carryOut_r1, wsX12_carryOut_r2, wsX120, wsX140, wsX130]
theorem wsB_X12_carryOut_in : ∀ w ∈ wsB_X12_carryOut.flatten, w ∈ wsX12_carryOut := fun w h => by
  have hq : wsX12_carryOut = wsB_X12_carryOut.flatten := by
    simp only [wsX12_carryOut, wsB_X12_carryOut, List.flatten_cons, List.flatten_nil, List.append_assoc, List.append_nil, List.cons_append, List.nil_append]
  rw [hq]
  exact h
def wsB_X12_fisher : List (List Cond) := [[.code yX12_fisher cX12_fisher 3 none], wsX12_fisher_r1, wsX12_fisher_r2, wsX12_fisher_r3, wsX120, wsX140, wsX130]
theorem wsB_X12_fisher_in : ∀ w ∈ wsB_X12_fisher.flatten, w ∈ wsX12_fisher := fun w h => by
  have hq : wsX12_fisher = wsB_X12_fisher.flatten := by
    simp only [wsX12_fisher, wsB_X12_fisher, List.flatten_cons, List.flatten_nil, List.append_assoc, List.append_nil, List.cons_append, List.nil_append]
  rw [hq]
  exact h
def wsB_X12_isSpared : List (List Cond) := [[.code yX12_isSpared cX12_isSpared 6 (some .boolean)], wsX12_isSpared_r1, wsX12_isSpared_r2, wsX120, wsX140, wsX130]
theorem wsB_X12_isSpared_in : ∀ w ∈ wsB_X12_isSpared.flatten, w ∈ wsX12_isSpared := fun w h => by
  have hq : wsX12_isSpared = wsB_X12_isSpared.flatten := by
    simp only [wsX12_isSpared, wsB_X12_isSpared, List.flatten_cons, List.flatten_nil, List.append_assoc, List.append_nil, List.cons_append, List.nil_append]
  rw [hq]
  exact h
def wsB_X12_pass : List (List Cond) := [[.code yX12_pass cX12_pass 2 none], wsX12_pass_r1, wsX12_pass_r2, wsX12_pass_r3, wsX12_pass_r4, wsX120, wsX140, wsX130]
theorem wsB_X12_pass_in : ∀ w ∈ wsB_X12_pass.flatten, w ∈ wsX12_pass := fun w h => by
  have hq : wsX12_pass = wsB_X12_pass.flatten := by
    simp only [wsX12_pass, wsB_X12_pass, List.flatten_cons, List.flatten_nil, List.append_assoc, List.append_nil, List.cons_append, List.nil_append]
  rw [hq]
  exact h
def wsB_X14_advise : List (List Cond) := [[.code yX14_advise cX14_advise 7 (some .int)], wsX14_advise_r1, wsX14_advise_r2, wsX14_advise_r3, wsX14_advise_r4, wsX14_advise_r5, wsX140, wsX120, wsX130]
theorem wsB_X14_advise_in : ∀ w ∈ wsB_X14_advise.flatten, w ∈ wsX14_advise := fun w h => by
  have hq : wsX14_advise = wsB_X14_advise.flatten := by
    simp only [wsX14_advise, wsB_X14_advise, List.flatten_cons, List.flatten_nil, List.append_assoc, List.append_nil, List.cons_append, List.nil_append]
  rw [hq]
  exact h
def wsB_X14_blame : List (List Cond) := [[.code yX14_blame cX14_blame 4 (some .int)], [.fieldLink RX14 57 "TideLotsModel" "thrown" "I", .fieldLink RX14 35 "TideLotsModel" "told" "LTideLotsModel$Told;", .fieldLink RX14 47 "TideLotsModel" "s" "LTideLotsModel$State;", .methodLink RX14 311 yX14_isGround, .instanceMethod yX14_isGround, .selects RX14 yX14_isGround yX14_isGround, .initialized RX14, .code yX14_isGround cX14_isGround 2 (some .boolean), .methodLink RX14 63 yX14_isIn, .static yX14_isIn, .code yX14_isIn cX14_isIn 3 (some .boolean), .methodLink RX14 276 yX14_no, .instanceMethod yX14_no, .selects RX14 yX14_no yX14_no, .code yX14_no cX14_no 2 (some .int)], wsX140, wsX130, wsX120]
theorem wsB_X14_blame_in : ∀ w ∈ wsB_X14_blame.flatten, w ∈ wsX14_blame := fun w h => by
  have hq : wsX14_blame = wsB_X14_blame.flatten := by
    simp only [wsX14_blame, wsB_X14_blame, List.flatten_cons, List.flatten_nil, List.append_assoc, List.append_nil, List.cons_append, List.nil_append]
  rw [hq]
  exact h
def wsB_X14_cheat : List (List Cond) := [[.code yX14_cheat cX14_cheat 3 (some .int)], [.fieldLink RX14 57 "TideLotsModel" "thrown" "I", .fieldLink RX14 47 "TideLotsModel" "s" "LTideLotsModel$State;", .methodLink RX14 329 yX14_isFisher, .instanceMethod yX14_isFisher, .selects RX14 yX14_isFisher yX14_isFisher, .initialized RX14, .code yX14_isFisher cX14_isFisher 2 (some .boolean), .fieldLink RX14 35 "TideLotsModel" "told" "LTideLotsModel$Told;", .methodLink RX14 63 yX14_isIn, .static yX14_isIn, .code yX14_isIn cX14_isIn 3 (some .boolean), .methodLink RX14 276 yX14_no, .instanceMethod yX14_no, .selects RX14 yX14_no yX14_no, .code yX14_no cX14_no 2 (some .int), .methodLink RX14 287 yX12_sum, .instanceMethod yX12_sum, .selects RX12 yX12_sum yX12_sum, .initialized RX12, .code yX12_sum cX12_sum 7 (some .int)], wsX140, wsX120, wsX130]
theorem wsB_X14_cheat_in : ∀ w ∈ wsB_X14_cheat.flatten, w ∈ wsX14_cheat := fun w h => by
  have hq : wsX14_cheat = wsB_X14_cheat.flatten := by
    simp only [wsX14_cheat, wsB_X14_cheat, List.flatten_cons, List.flatten_nil, List.append_assoc, List.append_nil, List.cons_append, List.nil_append]
  rw [hq]
  exact h
def wsB_X14_count : List (List Cond) := [[.code yX14_count cX14_count 2 (some .int)], [.fieldLink RX14 57 "TideLotsModel" "thrown" "I", .methodLink RX14 63 yX14_isIn, .static yX14_isIn, .initialized RX14, .code yX14_isIn cX14_isIn 3 (some .boolean), .methodLink RX14 296 yX14_counted, .instanceMethod yX14_counted, .selects RX14 yX14_counted yX14_counted, .code yX14_counted cX14_counted 4 (some .int), .fieldLink RX14 35 "TideLotsModel" "told" "LTideLotsModel$Told;", .fieldLink RX14 47 "TideLotsModel" "s" "LTideLotsModel$State;", .arrayClass .int, .fieldLink RX14 79 "TideLotsModel" "size" "I", .methodLink RX14 287 yX12_sum, .instanceMethod yX12_sum, .selects RX12 yX12_sum yX12_sum, .initialized RX12, .code yX12_sum cX12_sum 7 (some .int), .methodLink RX14 276 yX14_no, .instanceMethod yX14_no, .selects RX14 yX14_no yX14_no, .code yX14_no cX14_no 2 (some .int)], wsX140, wsX130, wsX120]
theorem wsB_X14_count_in : ∀ w ∈ wsB_X14_count.flatten, w ∈ wsX14_count := fun w h => by
  have hq : wsX14_count = wsB_X14_count.flatten := by
    simp only [wsX14_count, wsB_X14_count, List.flatten_cons, List.flatten_nil, List.append_assoc, List.append_nil, List.cons_append, List.nil_append]
  rw [hq]
  exact h
def wsB_X14_counted : List (List Cond) := [[.code yX14_counted cX14_counted 4 (some .int)], [.fieldLink RX14 35 "TideLotsModel" "told" "LTideLotsModel$Told;", .fieldLink RX14 47 "TideLotsModel" "s" "LTideLotsModel$State;", .arrayClass .int, .fieldLink RX14 79 "TideLotsModel" "size" "I", .methodLink RX14 287 yX12_sum, .instanceMethod yX12_sum, .selects RX12 yX12_sum yX12_sum, .initialized RX12, .code yX12_sum cX12_sum 7 (some .int)], wsX140, wsX130, wsX120]
theorem wsB_X14_counted_in : ∀ w ∈ wsB_X14_counted.flatten, w ∈ wsX14_counted := fun w h => by
  have hq : wsX14_counted = wsB_X14_counted.flatten := by
    simp only [wsX14_counted, wsB_X14_counted, List.flatten_cons, List.flatten_nil, List.append_assoc, List.append_nil, List.cons_append, List.nil_append]
  rw [hq]
  exact h
def wsB_X14_cut : List (List Cond) := [[.code yX14_cut cX14_cut 3 none], wsX14_cut_r1, wsX14_cut_r2, wsX14_cut_r3, wsX14_cut_r4, wsX14_cut_r5, wsX14_cut_r6, wsX140]
theorem wsB_X14_cut_in : ∀ w ∈ wsB_X14_cut.flatten, w ∈ wsX14_cut := fun w h => by
  have hq : wsX14_cut = wsB_X14_cut.flatten := by
    simp only [wsX14_cut, wsB_X14_cut, List.flatten_cons, List.flatten_nil, List.append_assoc, List.append_nil, List.cons_append, List.nil_append]
  rw [hq]
  exact h
def wsB_X14_digest : List (List Cond) := [[.code yX14_digest cX14_digest 5 (some .long)], wsX14_digest_r1, wsX14_digest_r2, wsX14_digest_r3, wsX140, wsX130, wsX120]
theorem wsB_X14_digest_in : ∀ w ∈ wsB_X14_digest.flatten, w ∈ wsX14_digest := fun w h => by
  have hq : wsX14_digest = wsB_X14_digest.flatten := by
    simp only [wsX14_digest, wsB_X14_digest, List.flatten_cons, List.flatten_nil, List.append_assoc, List.append_nil, List.cons_append, List.nil_append]
  rw [hq]
  exact h
def wsB_X14_empty : List (List Cond) := [[.code yX14_empty cX14_empty 3 (some .int)], wsX14_empty_r1, wsX14_empty_r2, wsX14_empty_r3, wsX14_empty_r4, wsX14_empty_r5, wsX140, wsX130, wsX120]
theorem wsB_X14_empty_in : ∀ w ∈ wsB_X14_empty.flatten, w ∈ wsX14_empty := fun w h => by
  have hq : wsX14_empty = wsB_X14_empty.flatten := by
    simp only [wsX14_empty, wsB_X14_empty, List.flatten_cons, List.flatten_nil, List.append_assoc, List.append_nil, List.cons_append, List.nil_append]
  rw [hq]
  exact h
def wsB_X14_errorOf : List (List Cond) := [[.code yX14_errorOf cX14_errorOf 6 (some .int)], wsX14_errorOf_r1, wsX14_errorOf_r2, wsX140, wsX130]
theorem wsB_X14_errorOf_in : ∀ w ∈ wsB_X14_errorOf.flatten, w ∈ wsX14_errorOf := fun w h => by
  have hq : wsX14_errorOf = wsB_X14_errorOf.flatten := by
    simp only [wsX14_errorOf, wsB_X14_errorOf, List.flatten_cons, List.flatten_nil, List.append_assoc, List.append_nil, List.cons_append, List.nil_append]
  rw [hq]
  exact h
def wsB_X14_fisher : List (List Cond) := [[.code yX14_fisher cX14_fisher 3 (some .int)], [.fieldLink RX14 57 "TideLotsModel" "thrown" "I", .methodLink RX14 329 yX14_isFisher, .instanceMethod yX14_isFisher, .selects RX14 yX14_isFisher yX14_isFisher, .initialized RX14, .code yX14_isFisher cX14_isFisher 2 (some .boolean), .fieldLink RX14 35 "TideLotsModel" "told" "LTideLotsModel$Told;", .methodLink RX14 63 yX14_isIn, .static yX14_isIn, .code yX14_isIn cX14_isIn 3 (some .boolean), .methodLink RX14 332 yX14_fisherTold, .instanceMethod yX14_fisherTold, .selects RX14 yX14_fisherTold yX14_fisherTold, .code yX14_fisherTold cX14_fisherTold 4 (some .int), .arrayClass .int, .fieldLink RX14 47 "TideLotsModel" "s" "LTideLotsModel$State;", .methodLink RX14 326 yX14_takenBy, .instanceMethod yX14_takenBy, .selects RX14 yX14_takenBy yX14_takenBy, .code yX14_takenBy cX14_takenBy 4 (some .int), .methodLink RX14 276 yX14_no, .instanceMethod yX14_no, .selects RX14 yX14_no yX14_no, .code yX14_no cX14_no 2 (some .int)], wsX140, wsX130, wsX120]
theorem wsB_X14_fisher_in : ∀ w ∈ wsB_X14_fisher.flatten, w ∈ wsX14_fisher := fun w h => by
  have hq : wsX14_fisher = wsB_X14_fisher.flatten := by
    simp only [wsX14_fisher, wsB_X14_fisher, List.flatten_cons, List.flatten_nil, List.append_assoc, List.append_nil, List.cons_append, List.nil_append]
  rw [hq]
  exact h
def wsB_X14_fisherTold : List (List Cond) := [[.code yX14_fisherTold cX14_fisherTold 4 (some .int)], [.arrayClass .int, .fieldLink RX14 47 "TideLotsModel" "s" "LTideLotsModel$State;", .fieldLink RX14 35 "TideLotsModel" "told" "LTideLotsModel$Told;", .methodLink RX14 326 yX14_takenBy, .instanceMethod yX14_takenBy, .selects RX14 yX14_takenBy yX14_takenBy, .initialized RX14, .code yX14_takenBy cX14_takenBy 4 (some .int)], wsX140, wsX120, wsX130]
theorem wsB_X14_fisherTold_in : ∀ w ∈ wsB_X14_fisherTold.flatten, w ∈ wsX14_fisherTold := fun w h => by
  have hq : wsX14_fisherTold = wsB_X14_fisherTold.flatten := by
    simp only [wsX14_fisherTold, wsB_X14_fisherTold, List.flatten_cons, List.flatten_nil, List.append_assoc, List.append_nil, List.cons_append, List.nil_append]
  rw [hq]
  exact h
def wsB_X14_foresee : List (List Cond) := [[.code yX14_foresee cX14_foresee 4 (some .int)], wsX14_foresee_r1, wsX14_foresee_r2, wsX14_foresee_r3, wsX14_foresee_r4, wsX14_foresee_r5, wsX140, wsX120, wsX130]
theorem wsB_X14_foresee_in : ∀ w ∈ wsB_X14_foresee.flatten, w ∈ wsX14_foresee := fun w h => by
  have hq : wsX14_foresee = wsB_X14_foresee.flatten := by
    simp only [wsX14_foresee, wsB_X14_foresee, List.flatten_cons, List.flatten_nil, List.append_assoc, List.append_nil, List.cons_append, List.nil_append]
  rw [hq]
  exact h
def wsB_X14_gap : List (List Cond) := [[.code yX14_gap cX14_gap 1 (some .int)], [.fieldLink RX14 57 "TideLotsModel" "thrown" "I", .fieldLink RX14 47 "TideLotsModel" "s" "LTideLotsModel$State;", .methodLink RX14 359 yX12_gap, .instanceMethod yX12_gap, .selects RX12 yX12_gap yX12_gap, .initialized RX12, .code yX12_gap cX12_gap 4 (some .int), .constant RX12 92 (2147483647), .fieldLink RX12 3 "TideLotsModel$State" "this$0" "LTideLotsModel;", .fieldLink RX12 32 "TideLotsModel$State" "store" "[I", .methodLink RX12 96 Lib.Math.min.name, .static Lib.Math.min.name, .initialized "java/lang/Math", .code Lib.Math.min.name Lib.Math.min.code 2 (some .int), .methodLink RX12 102 Lib.Math.max.name, .static Lib.Math.max.name, .code Lib.Math.max.name Lib.Math.max.code 2 (some .int)], wsX140, wsX120, wsX130]
theorem wsB_X14_gap_in : ∀ w ∈ wsB_X14_gap.flatten, w ∈ wsX14_gap := fun w h => by
  have hq : wsX14_gap = wsB_X14_gap.flatten := by
    simp only [wsX14_gap, wsB_X14_gap, List.flatten_cons, List.flatten_nil, List.append_assoc, List.append_nil, List.cons_append, List.nil_append]
  rw [hq]
  exact h
def wsB_X14_ground : List (List Cond) := [[.code yX14_ground cX14_ground 3 (some .int)], wsX14_ground_r1, wsX14_ground_r2, wsX140, wsX130, wsX120]
theorem wsB_X14_ground_in : ∀ w ∈ wsB_X14_ground.flatten, w ∈ wsX14_ground := fun w h => by
  have hq : wsX14_ground = wsB_X14_ground.flatten := by
    simp only [wsX14_ground, wsB_X14_ground, List.flatten_cons, List.flatten_nil, List.append_assoc, List.append_nil, List.cons_append, List.nil_append]
  rw [hq]
  exact h
def wsB_X14_groundTold : List (List Cond) := [[.code yX14_groundTold cX14_groundTold 3 (some .int)], [.fieldLink RX14 47 "TideLotsModel" "s" "LTideLotsModel$State;", .fieldLink RX14 35 "TideLotsModel" "told" "LTideLotsModel$Told;", .methodLink RX14 302 yX12_fishAt, .instanceMethod yX12_fishAt, .selects RX12 yX12_fishAt yX12_fishAt, .initialized RX12, .code yX12_fishAt cX12_fishAt 4 (some .int), .fieldLink RX12 19 "TideLotsModel$State" "fish" "[I", .methodLink RX14 308 yX14_takenAt, .instanceMethod yX14_takenAt, .selects RX14 yX14_takenAt yX14_takenAt, .initialized RX14, .code yX14_takenAt cX14_takenAt 4 (some .int)], wsX140, wsX120, wsX130]
theorem wsB_X14_groundTold_in : ∀ w ∈ wsB_X14_groundTold.flatten, w ∈ wsX14_groundTold := fun w h => by
  have hq : wsX14_groundTold = wsB_X14_groundTold.flatten := by
    simp only [wsX14_groundTold, wsB_X14_groundTold, List.flatten_cons, List.flatten_nil, List.append_assoc, List.append_nil, List.cons_append, List.nil_append]
  rw [hq]
  exact h
def wsB_X14_init : List (List Cond) := [[.code yX14_init cX14_init 1 none], wsX14_init_r1, wsX14_init_r2, wsX14_init_r3, wsX14_init_r4, wsX140, wsX130, wsX120]
theorem wsB_X14_init_in : ∀ w ∈ wsB_X14_init.flatten, w ∈ wsX14_init := fun w h => by
  have hq : wsX14_init = wsB_X14_init.flatten := by
    simp only [wsX14_init, wsB_X14_init, List.flatten_cons, List.flatten_nil, List.append_assoc, List.append_nil, List.cons_append, List.nil_append]
  rw [hq]
  exact h
def wsB_X14_isBoth : List (List Cond) := [[.code yX14_isBoth cX14_isBoth 1 (some .boolean)], wsX14_isBoth_r1, wsX14_isBoth_r2, wsX14_isBoth_r3, wsX140, wsX130]
theorem wsB_X14_isBoth_in : ∀ w ∈ wsB_X14_isBoth.flatten, w ∈ wsX14_isBoth := fun w h => by
  have hq : wsX14_isBoth = wsB_X14_isBoth.flatten := by
    simp only [wsX14_isBoth, wsB_X14_isBoth, List.flatten_cons, List.flatten_nil, List.append_assoc, List.append_nil, List.cons_append, List.nil_append]
  rw [hq]
  exact h
def wsB_X14_isGoLine : List (List Cond) := [[.code yX14_isGoLine cX14_isGoLine 2 (some .boolean)], wsX14_isGoLine_r1, wsX14_isGoLine_r2, wsX14_isGoLine_r3, wsX14_isGoLine_r4, wsX140, wsX130]
theorem wsB_X14_isGoLine_in : ∀ w ∈ wsB_X14_isGoLine.flatten, w ∈ wsX14_isGoLine := fun w h => by
  have hq : wsX14_isGoLine = wsB_X14_isGoLine.flatten := by
    simp only [wsX14_isGoLine, wsB_X14_isGoLine, List.flatten_cons, List.flatten_nil, List.append_assoc, List.append_nil, List.cons_append, List.nil_append]
  rw [hq]
  exact h
def wsB_X14_isNamed : List (List Cond) := [[.code yX14_isNamed cX14_isNamed 2 (some .boolean)], [.fieldLink RX14 17 "TideLotsModel" "kind" "[I", .fieldLink RX14 118 "TideLotsModel" "token" "I", .fieldLink RX14 39 "TideLotsModel" "reading" "LTideLotsModel$Told;", .methodLink RX14 180 yX14_put, .instanceMethod yX14_put, .selects RX14 yX14_put yX14_put, .initialized RX14, .code yX14_put cX14_put 2 none, .methodLink RX14 149 yX14_eatAs, .instanceMethod yX14_eatAs, .selects RX14 yX14_eatAs yX14_eatAs, .code yX14_eatAs cX14_eatAs 3 (some .boolean), .fieldLink RX14 26 "TideLotsModel" "role" "[I", .methodLink RX14 124 yX14_eat, .instanceMethod yX14_eat, .selects RX14 yX14_eat yX14_eat, .code yX14_eat cX14_eat 2 (some .boolean), .methodLink RX14 121 yX14_is, .instanceMethod yX14_is, .selects RX14 yX14_is yX14_is, .code yX14_is cX14_is 2 (some .boolean)], wsX140, wsX130]
theorem wsB_X14_isNamed_in : ∀ w ∈ wsB_X14_isNamed.flatten, w ∈ wsX14_isNamed := fun w h => by
  have hq : wsX14_isNamed = wsB_X14_isNamed.flatten := by
    simp only [wsX14_isNamed, wsB_X14_isNamed, List.flatten_cons, List.flatten_nil, List.append_assoc, List.append_nil, List.cons_append, List.nil_append]
  rw [hq]
  exact h
def wsB_X14_isPactLine : List (List Cond) := [[.code yX14_isPactLine cX14_isPactLine 2 (some .boolean)], wsX14_isPactLine_r1, wsX14_isPactLine_r2, wsX14_isPactLine_r3, wsX140, wsX130]
theorem wsB_X14_isPactLine_in : ∀ w ∈ wsB_X14_isPactLine.flatten, w ∈ wsX14_isPactLine := fun w h => by
  have hq : wsX14_isPactLine = wsB_X14_isPactLine.flatten := by
    simp only [wsX14_isPactLine, wsB_X14_isPactLine, List.flatten_cons, List.flatten_nil, List.append_assoc, List.append_nil, List.cons_append, List.nil_append]
  rw [hq]
  exact h
def wsB_X14_isProduct : List (List Cond) := [[.code yX14_isProduct cX14_isProduct 2 (some .boolean)], wsX14_isProduct_r1, wsX14_isProduct_r2, wsX14_isProduct_r3, wsX140, wsX130]
theorem wsB_X14_isProduct_in : ∀ w ∈ wsB_X14_isProduct.flatten, w ∈ wsX14_isProduct := fun w h => by
  have hq : wsX14_isProduct = wsB_X14_isProduct.flatten := by
    simp only [wsX14_isProduct, wsB_X14_isProduct, List.flatten_cons, List.flatten_nil, List.append_assoc, List.append_nil, List.cons_append, List.nil_append]
  rw [hq]
  exact h
def wsB_X14_isSingle : List (List Cond) := [[.code yX14_isSingle cX14_isSingle 2 (some .boolean)], wsX14_isSingle_r1, wsX14_isSingle_r2, wsX14_isSingle_r3, wsX140, wsX130]
theorem wsB_X14_isSingle_in : ∀ w ∈ wsB_X14_isSingle.flatten, w ∈ wsX14_isSingle := fun w h => by
  have hq : wsX14_isSingle = wsB_X14_isSingle.flatten := by
    simp only [wsX14_isSingle, wsB_X14_isSingle, List.flatten_cons, List.flatten_nil, List.append_assoc, List.append_nil, List.cons_append, List.nil_append]
  rw [hq]
  exact h
def wsB_X14_isSum : List (List Cond) := [[.code yX14_isSum cX14_isSum 2 (some .boolean)], wsX14_isSum_r1, wsX14_isSum_r2, wsX14_isSum_r3, wsX140, wsX130]
theorem wsB_X14_isSum_in : ∀ w ∈ wsB_X14_isSum.flatten, w ∈ wsX14_isSum := fun w h => by
  have hq : wsX14_isSum = wsB_X14_isSum.flatten := by
    simp only [wsX14_isSum, wsB_X14_isSum, List.flatten_cons, List.flatten_nil, List.append_assoc, List.append_nil, List.cons_append, List.nil_append]
  rw [hq]
  exact h
def wsB_X14_isTest : List (List Cond) := [[.code yX14_isTest cX14_isTest 1 (some .boolean)], wsX14_isTest_r1, wsX14_isTest_r2, wsX14_isTest_r3, wsX140, wsX130]
theorem wsB_X14_isTest_in : ∀ w ∈ wsB_X14_isTest.flatten, w ∈ wsX14_isTest := fun w h => by
  have hq : wsX14_isTest = wsB_X14_isTest.flatten := by
    simp only [wsX14_isTest, wsB_X14_isTest, List.flatten_cons, List.flatten_nil, List.append_assoc, List.append_nil, List.cons_append, List.nil_append]
  rw [hq]
  exact h
def wsB_X14_isText : List (List Cond) := [[.code yX14_isText cX14_isText 2 (some .boolean)], wsX14_isText_r1, wsX14_isText_r2, wsX14_isText_r3, wsX14_isText_r4, wsX140, wsX130]
theorem wsB_X14_isText_in : ∀ w ∈ wsB_X14_isText.flatten, w ∈ wsX14_isText := fun w h => by
  have hq : wsX14_isText = wsB_X14_isText.flatten := by
    simp only [wsX14_isText, wsB_X14_isText, List.flatten_cons, List.flatten_nil, List.append_assoc, List.append_nil, List.cons_append, List.nil_append]
  rw [hq]
  exact h
def wsB_X14_isValue : List (List Cond) := [[.code yX14_isValue cX14_isValue 3 (some .boolean)], wsX14_isValue_r1, wsX14_isValue_r2, wsX14_isValue_r3, wsX140, wsX130]
theorem wsB_X14_isValue_in : ∀ w ∈ wsB_X14_isValue.flatten, w ∈ wsX14_isValue := fun w h => by
  have hq : wsX14_isValue = wsB_X14_isValue.flatten := by
    simp only [wsX14_isValue, wsB_X14_isValue, List.flatten_cons, List.flatten_nil, List.append_assoc, List.append_nil, List.cons_append, List.nil_append]
  rw [hq]
  exact h
def wsB_X14_kindAt : List (List Cond) := [[.code yX14_kindAt cX14_kindAt 6 (some .int)], wsX14_kindAt_r1, wsX14_kindAt_r2, wsX14_kindAt_r3, wsX14_kindAt_r4, wsX14_kindAt_r5, wsX14_kindAt_r6, wsX140]
theorem wsB_X14_kindAt_in : ∀ w ∈ wsB_X14_kindAt.flatten, w ∈ wsX14_kindAt := fun w h => by
  have hq : wsX14_kindAt = wsB_X14_kindAt.flatten := by
    simp only [wsX14_kindAt, wsB_X14_kindAt, List.flatten_cons, List.flatten_nil, List.append_assoc, List.append_nil, List.cons_append, List.nil_append]
  rw [hq]
  exact h
def wsB_X14_lot : List (List Cond) := [[.code yX14_lot cX14_lot 2 (some .int)], wsX14_lot_r1, wsX14_lot_r2, wsX140, wsX130, wsX120]
theorem wsB_X14_lot_in : ∀ w ∈ wsB_X14_lot.flatten, w ∈ wsX14_lot := fun w h => by
  have hq : wsX14_lot = wsB_X14_lot.flatten := by
    simp only [wsX14_lot, wsB_X14_lot, List.flatten_cons, List.flatten_nil, List.append_assoc, List.append_nil, List.cons_append, List.nil_append]
  rw [hq]
  exact h
def wsB_X14_lotOf : List (List Cond) := [[.code yX14_lotOf cX14_lotOf 2 (some .int)], [.fieldLink RX14 51 "TideLotsModel" "ahead" "LTideLotsModel$State;", .fieldLink RX14 47 "TideLotsModel" "s" "LTideLotsModel$State;", .methodLink RX14 350 yX12_draw, .instanceMethod yX12_draw, .selects RX12 yX12_draw yX12_draw, .initialized RX12, .code yX12_draw cX12_draw 4 none, .fieldLink RX12 3 "TideLotsModel$State" "this$0" "LTideLotsModel;", .fieldLink RX12 59 "TideLotsModel$State" "row" "[I", .fieldLink RX12 15 "TideLotsModel$State" "l" "I", .constant RX12 105 (69069), .fieldLink RX12 56 "TideLotsModel$State" "lots" "[I", .methodLink RX12 68 arraycopyName, .native arraycopyName, .static arraycopyName, .initialized "java/lang/System"], wsX140, wsX120, wsX130]
theorem wsB_X14_lotOf_in : ∀ w ∈ wsB_X14_lotOf.flatten, w ∈ wsX14_lotOf := fun w h => by
  have hq : wsX14_lotOf = wsB_X14_lotOf.flatten := by
    simp only [wsX14_lotOf, wsB_X14_lotOf, List.flatten_cons, List.flatten_nil, List.append_assoc, List.append_nil, List.cons_append, List.nil_append]
  rw [hq]
  exact h
def wsB_X14_mend : List (List Cond) := [[.code yX14_mend cX14_mend 2 (some .int)], [.fieldLink RX14 57 "TideLotsModel" "thrown" "I", .fieldLink RX14 47 "TideLotsModel" "s" "LTideLotsModel$State;", .fieldLink RX14 35 "TideLotsModel" "told" "LTideLotsModel$Told;", .methodLink RX14 329 yX14_isFisher, .instanceMethod yX14_isFisher, .selects RX14 yX14_isFisher yX14_isFisher, .initialized RX14, .code yX14_isFisher cX14_isFisher 2 (some .boolean), .methodLink RX14 63 yX14_isIn, .static yX14_isIn, .code yX14_isIn cX14_isIn 3 (some .boolean), .methodLink RX14 276 yX14_no, .instanceMethod yX14_no, .selects RX14 yX14_no yX14_no, .code yX14_no cX14_no 2 (some .int)], wsX140, wsX120, wsX130]
theorem wsB_X14_mend_in : ∀ w ∈ wsB_X14_mend.flatten, w ∈ wsX14_mend := fun w h => by
  have hq : wsX14_mend = wsB_X14_mend.flatten := by
    simp only [wsX14_mend, wsB_X14_mend, List.flatten_cons, List.flatten_nil, List.append_assoc, List.append_nil, List.cons_append, List.nil_append]
  rw [hq]
  exact h
def wsB_X14_pact : List (List Cond) := [[.code yX14_pact cX14_pact 3 (some .int)], [.fieldLink RX14 57 "TideLotsModel" "thrown" "I", .fieldLink RX14 35 "TideLotsModel" "told" "LTideLotsModel$Told;", .methodLink RX14 63 yX14_isIn, .static yX14_isIn, .initialized RX14, .code yX14_isIn cX14_isIn 3 (some .boolean), .methodLink RX14 344 yX14_pactTold, .instanceMethod yX14_pactTold, .selects RX14 yX14_pactTold yX14_pactTold, .code yX14_pactTold cX14_pactTold 4 (some .int), .arrayClass .int, .fieldLink RX14 47 "TideLotsModel" "s" "LTideLotsModel$State;", .methodLink RX14 276 yX14_no, .instanceMethod yX14_no, .selects RX14 yX14_no yX14_no, .code yX14_no cX14_no 2 (some .int)], wsX140, wsX130, wsX120]
theorem wsB_X14_pact_in : ∀ w ∈ wsB_X14_pact.flatten, w ∈ wsX14_pact := fun w h => by
  have hq : wsX14_pact = wsB_X14_pact.flatten := by
    simp only [wsX14_pact, wsB_X14_pact, List.flatten_cons, List.flatten_nil, List.append_assoc, List.append_nil, List.cons_append, List.nil_append]
  rw [hq]
  exact h
def wsB_X14_pass : List (List Cond) := [[.code yX14_pass cX14_pass 4 (some .int)], wsX14_pass_r1, wsX14_pass_r2, wsX14_pass_r3, wsX14_pass_r4, wsX140, wsX120, wsX130]
theorem wsB_X14_pass_in : ∀ w ∈ wsB_X14_pass.flatten, w ∈ wsX14_pass := fun w h => by
  have hq : wsX14_pass = wsB_X14_pass.flatten := by
    simp only [wsX14_pass, wsB_X14_pass, List.flatten_cons, List.flatten_nil, List.append_assoc, List.append_nil, List.cons_append, List.nil_append]
  rw [hq]
  exact h
def wsB_X14_pays : List (List Cond) := [[.code yX14_pays cX14_pays 3 (some .int)], wsX14_pays_r1, wsX14_pays_r2, wsX14_pays_r3, wsX14_pays_r4, wsX14_pays_r5, wsX140, wsX120, wsX130]
theorem wsB_X14_pays_in : ∀ w ∈ wsB_X14_pays.flatten, w ∈ wsX14_pays := fun w h => by
  have hq : wsX14_pays = wsB_X14_pays.flatten := by
    simp only [wsX14_pays, wsB_X14_pays, List.flatten_cons, List.flatten_nil, List.append_assoc, List.append_nil, List.cons_append, List.nil_append]
  rw [hq]
  exact h
def wsB_X14_read : List (List Cond) := [[.code yX14_read cX14_read 3 (some .int)], wsX14_read_r1, wsX14_read_r2, wsX14_read_r3, wsX14_read_r4, wsX14_read_r5, wsX14_read_r6, wsX14_read_r7, wsX14_read_r8, wsX14_read_r9, wsX14_read_r10, wsX14_read_r11, wsX14_read_r12, wsX130, wsX140]
theorem wsB_X14_read_in : ∀ w ∈ wsB_X14_read.flatten, w ∈ wsX14_read := fun w h => by
  have hq : wsX14_read = wsB_X14_read.flatten := by
    simp only [wsX14_read, wsB_X14_read, List.flatten_cons, List.flatten_nil, List.append_assoc, List.append_nil, List.cons_append, List.nil_append]
  rw [hq]
  exact h
def wsB_X14_storeAs : List (List Cond) := [[.code yX14_storeAs cX14_storeAs 6 (some .int)], wsX14_storeAs_r1, wsX14_storeAs_r2, wsX14_storeAs_r3, wsX14_storeAs_r4, wsX140, wsX120, wsX130]
theorem wsB_X14_storeAs_in : ∀ w ∈ wsB_X14_storeAs.flatten, w ∈ wsX14_storeAs := fun w h => by
  have hq : wsX14_storeAs = wsB_X14_storeAs.flatten := by
    simp only [wsX14_storeAs, wsB_X14_storeAs, List.flatten_cons, List.flatten_nil, List.append_assoc, List.append_nil, List.cons_append, List.nil_append]
  rw [hq]
  exact h
def wsB_X14_teach : List (List Cond) := [[.code yX14_teach cX14_teach 2 (some .int)], wsX14_teach_r1, wsX14_teach_r2, wsX14_teach_r3, wsX14_teach_r4, wsX14_teach_r5, wsX14_teach_r6, wsX14_teach_r7, wsX14_teach_r8, wsX14_teach_r9, wsX14_teach_r10, wsX14_teach_r11, wsX14_teach_r12, wsX14_teach_r13, wsX140, wsX130, wsX120]
theorem wsB_X14_teach_in : ∀ w ∈ wsB_X14_teach.flatten, w ∈ wsX14_teach := fun w h => by
  have hq : wsX14_teach = wsB_X14_teach.flatten := by
    simp only [wsX14_teach, wsB_X14_teach, List.flatten_cons, List.flatten_nil, List.append_assoc, List.append_nil, List.cons_append, List.nil_append]
  rw [hq]
  exact h
def wsB_X14_took : List (List Cond) := [[.code yX14_took cX14_took 3 (some .int)], [.fieldLink RX14 57 "TideLotsModel" "thrown" "I", .fieldLink RX14 47 "TideLotsModel" "s" "LTideLotsModel$State;", .methodLink RX14 311 yX14_isGround, .instanceMethod yX14_isGround, .selects RX14 yX14_isGround yX14_isGround, .initialized RX14, .code yX14_isGround cX14_isGround 2 (some .boolean), .fieldLink RX14 35 "TideLotsModel" "told" "LTideLotsModel$Told;", .methodLink RX14 63 yX14_isIn, .static yX14_isIn, .code yX14_isIn cX14_isIn 3 (some .boolean), .methodLink RX14 329 yX14_isFisher, .instanceMethod yX14_isFisher, .selects RX14 yX14_isFisher yX14_isFisher, .code yX14_isFisher cX14_isFisher 2 (some .boolean), .methodLink RX14 276 yX14_no, .instanceMethod yX14_no, .selects RX14 yX14_no yX14_no, .code yX14_no cX14_no 2 (some .int)], wsX140, wsX120, wsX130]
theorem wsB_X14_took_in : ∀ w ∈ wsB_X14_took.flatten, w ∈ wsX14_took := fun w h => by
  have hq : wsX14_took = wsB_X14_took.flatten := by
    simp only [wsX14_took, wsB_X14_took, List.flatten_cons, List.flatten_nil, List.append_assoc, List.append_nil, List.cons_append, List.nil_append]
  rw [hq]
  exact h
def wsB_X14_word : List (List Cond) := [[.code yX14_word cX14_word 6 (some .int)], wsX14_word_r1, wsX14_word_r2, wsX14_word_r3, wsX140]
theorem wsB_X14_word_in : ∀ w ∈ wsB_X14_word.flatten, w ∈ wsX14_word := fun w h => by
  have hq : wsX14_word = wsB_X14_word.flatten := by
    simp only [wsX14_word, wsB_X14_word, List.flatten_cons, List.flatten_nil, List.append_assoc, List.append_nil, List.cons_append, List.nil_append]
  rw [hq]
  exact h
def wsB_X6_both : List (List Cond) := [[.code yX6_both cX6_both 3 (some .boolean)], wsX6_both_r1, wsX6_both_r2, wsX6_both_r3, wsX6_both_r4, wsX6_both_r5, wsX60, wsX70, wsX100, wsX90, wsX40]
theorem wsB_X6_both_in : ∀ w ∈ wsB_X6_both.flatten, w ∈ wsX6_both := fun w h => by
  have hq : wsX6_both = wsB_X6_both.flatten := by
    simp only [wsX6_both, wsB_X6_both, List.flatten_cons, List.flatten_nil, List.append_assoc, List.append_nil, List.cons_append, List.nil_append]
  rw [hq]
  exact h
def wsB_X6_comparedSum : List (List Cond) := [[.code yX6_comparedSum cX6_comparedSum 3 (some .boolean)], wsX6_comparedSum_r1, wsX6_comparedSum_r2, wsX6_comparedSum_r3, wsX6_comparedSum_r4, wsX60, wsX70, wsX100, wsX90, wsX40]
theorem wsB_X6_comparedSum_in : ∀ w ∈ wsB_X6_comparedSum.flatten, w ∈ wsX6_comparedSum := fun w h => by
  have hq : wsX6_comparedSum = wsB_X6_comparedSum.flatten := by
    simp only [wsX6_comparedSum, wsB_X6_comparedSum, List.flatten_cons, List.flatten_nil, List.append_assoc, List.append_nil, List.cons_append, List.nil_append]
  rw [hq]
  exact h
def wsB_X6_fisherLine : List (List Cond) := [[.code yX6_fisherLine cX6_fisherLine 2 (some .boolean)], wsX6_fisherLine_r1, wsX6_fisherLine_r2, wsX6_fisherLine_r3, wsX6_fisherLine_r4, wsX60, wsX10, wsX100, wsX40, wsX70]
theorem wsB_X6_fisherLine_in : ∀ w ∈ wsB_X6_fisherLine.flatten, w ∈ wsX6_fisherLine := fun w h => by
  have hq : wsX6_fisherLine = wsB_X6_fisherLine.flatten := by
    simp only [wsX6_fisherLine, wsB_X6_fisherLine, List.flatten_cons, List.flatten_nil, List.append_assoc, List.append_nil, List.cons_append, List.nil_append]
  rw [hq]
  exact h
def wsB_X6_goLine : List (List Cond) := [[.code yX6_goLine cX6_goLine 2 (some .boolean)], wsX6_goLine_r1, wsX6_goLine_r2, wsX6_goLine_r3, wsX6_goLine_r4, wsX6_goLine_r5, wsX6_goLine_r6, wsX60, wsX70, wsX20, wsX90, wsX100, wsX40]
theorem wsB_X6_goLine_in : ∀ w ∈ wsB_X6_goLine.flatten, w ∈ wsX6_goLine := fun w h => by
  have hq : wsX6_goLine = wsB_X6_goLine.flatten := by
    simp only [wsX6_goLine, wsB_X6_goLine, List.flatten_cons, List.flatten_nil, List.append_assoc, List.append_nil, List.cons_append, List.nil_append]
  rw [hq]
  exact h
def wsB_X6_groundLine : List (List Cond) := [[.code yX6_groundLine cX6_groundLine 3 (some .boolean)], wsX6_groundLine_r1, wsX6_groundLine_r2, wsX6_groundLine_r3, wsX6_groundLine_r4, wsX60, wsX30, wsX100, wsX40, wsX70]
theorem wsB_X6_groundLine_in : ∀ w ∈ wsB_X6_groundLine.flatten, w ∈ wsX6_groundLine := fun w h => by
  have hq : wsX6_groundLine = wsB_X6_groundLine.flatten := by
    simp only [wsX6_groundLine, wsB_X6_groundLine, List.flatten_cons, List.flatten_nil, List.append_assoc, List.append_nil, List.cons_append, List.nil_append]
  rw [hq]
  exact h
def wsB_X6_pactLine : List (List Cond) := [[.code yX6_pactLine cX6_pactLine 3 (some .boolean)], wsX6_pactLine_r1, wsX6_pactLine_r2, wsX6_pactLine_r3, wsX6_pactLine_r4, wsX6_pactLine_r5, wsX6_pactLine_r6, wsX60, wsX50, wsX70, wsX90, wsX100, wsX40]
theorem wsB_X6_pactLine_in : ∀ w ∈ wsB_X6_pactLine.flatten, w ∈ wsX6_pactLine := fun w h => by
  have hq : wsX6_pactLine = wsB_X6_pactLine.flatten := by
    simp only [wsX6_pactLine, wsB_X6_pactLine, List.flatten_cons, List.flatten_nil, List.append_assoc, List.append_nil, List.cons_append, List.nil_append]
  rw [hq]
  exact h
def wsB_X6_product : List (List Cond) := [[.code yX6_product cX6_product 4 (some .boolean)], wsX6_product_r1, wsX6_product_r2, wsX6_product_r3, wsX6_product_r4, wsX60, wsX70, wsX100, wsX90, wsX40]
theorem wsB_X6_product_in : ∀ w ∈ wsB_X6_product.flatten, w ∈ wsX6_product := fun w h => by
  have hq : wsX6_product = wsB_X6_product.flatten := by
    simp only [wsX6_product, wsB_X6_product, List.flatten_cons, List.flatten_nil, List.append_assoc, List.append_nil, List.cons_append, List.nil_append]
  rw [hq]
  exact h
def wsB_X6_read : List (List Cond) := [[.code yX6_read cX6_read 3 (some .int)], wsX6_read_r1, wsX6_read_r2, wsX6_read_r3, wsX6_read_r4, wsX6_read_r5, wsX6_read_r6, wsX6_read_r7, wsX6_read_r8, wsX6_read_r9, wsX6_read_r10, wsX6_read_r11, wsX60, wsX100, wsX70, wsX90, wsX30, wsX40, wsX10, wsX20, wsX50]
theorem wsB_X6_read_in : ∀ w ∈ wsB_X6_read.flatten, w ∈ wsX6_read := fun w h => by
  have hq : wsX6_read = wsB_X6_read.flatten := by
    simp only [wsX6_read, wsB_X6_read, List.flatten_cons, List.flatten_nil, List.append_assoc, List.append_nil, List.cons_append, List.nil_append]
  rw [hq]
  exact h
def wsB_X6_single : List (List Cond) := [[.code yX6_single cX6_single 3 (some .boolean)], wsX6_single_r1, wsX6_single_r2, wsX6_single_r3, wsX6_single_r4, wsX6_single_r5, wsX60, wsX70, wsX100, wsX90, wsX40]
theorem wsB_X6_single_in : ∀ w ∈ wsB_X6_single.flatten, w ∈ wsX6_single := fun w h => by
  have hq : wsX6_single = wsB_X6_single.flatten := by
    simp only [wsX6_single, wsB_X6_single, List.flatten_cons, List.flatten_nil, List.append_assoc, List.append_nil, List.cons_append, List.nil_append]
  rw [hq]
  exact h
def wsB_X6_sum : List (List Cond) := [[.code yX6_sum cX6_sum 4 (some .boolean)], wsX6_sum_r1, wsX6_sum_r2, wsX6_sum_r3, wsX6_sum_r4, wsX60, wsX70, wsX100, wsX90, wsX40]
theorem wsB_X6_sum_in : ∀ w ∈ wsB_X6_sum.flatten, w ∈ wsX6_sum := fun w h => by
  have hq : wsX6_sum = wsB_X6_sum.flatten := by
    simp only [wsX6_sum, wsB_X6_sum, List.flatten_cons, List.flatten_nil, List.append_assoc, List.append_nil, List.cons_append, List.nil_append]
  rw [hq]
  exact h
def wsB_X6_takeMember : List (List Cond) := [[.code yX6_takeMember cX6_takeMember 2 (some .boolean)], wsX6_takeMember_r1, wsX6_takeMember_r2, wsX60, wsX100, wsX40, wsX50]
theorem wsB_X6_takeMember_in : ∀ w ∈ wsB_X6_takeMember.flatten, w ∈ wsX6_takeMember := fun w h => by
  have hq : wsX6_takeMember = wsB_X6_takeMember.flatten := by
    simp only [wsX6_takeMember, wsB_X6_takeMember, List.flatten_cons, List.flatten_nil, List.append_assoc, List.append_nil, List.cons_append, List.nil_append]
  rw [hq]
  exact h
def wsB_X6_test : List (List Cond) := [[.code yX6_test cX6_test 3 (some .boolean)], wsX6_test_r1, wsX6_test_r2, wsX6_test_r3, wsX6_test_r4, wsX6_test_r5, wsX60, wsX70, wsX100, wsX90, wsX40]
theorem wsB_X6_test_in : ∀ w ∈ wsB_X6_test.flatten, w ∈ wsX6_test := fun w h => by
  have hq : wsX6_test = wsB_X6_test.flatten := by
    simp only [wsX6_test, wsB_X6_test, List.flatten_cons, List.flatten_nil, List.append_assoc, List.append_nil, List.cons_append, List.nil_append]
  rw [hq]
  exact h
def wsB_X6_value : List (List Cond) := [[.code yX6_value cX6_value 4 (some .boolean)], wsX6_value_r1, wsX6_value_r2, wsX6_value_r3, wsX6_value_r4, wsX60, wsX70, wsX100, wsX90, wsX40]
theorem wsB_X6_value_in : ∀ w ∈ wsB_X6_value.flatten, w ∈ wsX6_value := fun w h => by
  have hq : wsX6_value = wsB_X6_value.flatten := by
    simp only [wsX6_value, wsB_X6_value, List.flatten_cons, List.flatten_nil, List.append_assoc, List.append_nil, List.cons_append, List.nil_append]
  rw [hq]
  exact h
def wsB_X7_copyFrom : List (List Cond) := [[.code yX7_copyFrom cX7_copyFrom 3 none], wsX7_copyFrom_r1, wsX7_copyFrom_r2, wsX7_copyFrom_r3, wsX70, wsX30, wsX10, wsX20, wsX50, wsX90]
theorem wsB_X7_copyFrom_in : ∀ w ∈ wsB_X7_copyFrom.flatten, w ∈ wsX7_copyFrom := fun w h => by
  have hq : wsX7_copyFrom = wsB_X7_copyFrom.flatten := by
    simp only [wsX7_copyFrom, wsB_X7_copyFrom, List.flatten_cons, List.flatten_nil, List.append_assoc, List.append_nil, List.cons_append, List.nil_append]
  rw [hq]
  exact h
def wsB_X7_firstGo : List (List Cond) := [[.code yX7_firstGo cX7_firstGo 5 (some .int)], wsX7_firstGo_r1, wsX7_firstGo_r2, wsX7_firstGo_r3, wsX7_firstGo_r4, wsX70, wsX20, wsX30, wsX90, wsX10, wsX50]
theorem wsB_X7_firstGo_in : ∀ w ∈ wsB_X7_firstGo.flatten, w ∈ wsX7_firstGo := fun w h => by
  have hq : wsX7_firstGo = wsB_X7_firstGo.flatten := by
    simp only [wsX7_firstGo, wsB_X7_firstGo, List.flatten_cons, List.flatten_nil, List.append_assoc, List.append_nil, List.cons_append, List.nil_append]
  rw [hq]
  exact h
def wsB_X7_init : List (List Cond) := [[.code yX7_init cX7_init 2 none], wsX7_init_r1, wsX7_init_r2, wsX7_init_r3, wsX70, wsX90, wsX30, wsX10, wsX50, wsX20]
theorem wsB_X7_init_in : ∀ w ∈ wsB_X7_init.flatten, w ∈ wsX7_init := fun w h => by
  have hq : wsX7_init = wsB_X7_init.flatten := by
    simp only [wsX7_init, wsB_X7_init, List.flatten_cons, List.flatten_nil, List.append_assoc, List.append_nil, List.cons_append, List.nil_append]
  rw [hq]
  exact h
def wsB_X7_isSpared : List (List Cond) := [[.code yX7_isSpared cX7_isSpared 5 (some .boolean)], wsX7_isSpared_r1, wsX7_isSpared_r2, wsX7_isSpared_r3, wsX70, wsX10, wsX50, wsX30, wsX90]
theorem wsB_X7_isSpared_in : ∀ w ∈ wsB_X7_isSpared.flatten, w ∈ wsX7_isSpared := fun w h => by
  have hq : wsX7_isSpared = wsB_X7_isSpared.flatten := by
    simp only [wsX7_isSpared, wsB_X7_isSpared, List.flatten_cons, List.flatten_nil, List.append_assoc, List.append_nil, List.cons_append, List.nil_append]
  rw [hq]
  exact h
def wsB_X7_passTides : List (List Cond) := [[.code yX7_passTides cX7_passTides 5 (some .int)], wsX7_passTides_r1, wsX7_passTides_r2, wsX7_passTides_r3, wsX7_passTides_r4, wsX7_passTides_r5, wsX7_passTides_r6, wsX7_passTides_r7, wsX70, wsX30, wsX20, wsX90, wsX10, wsX50]
theorem wsB_X7_passTides_in : ∀ w ∈ wsB_X7_passTides.flatten, w ∈ wsX7_passTides := fun w h => by
  have hq : wsX7_passTides = wsB_X7_passTides.flatten := by
    simp only [wsX7_passTides, wsB_X7_passTides, List.flatten_cons, List.flatten_nil, List.append_assoc, List.append_nil, List.cons_append, List.nil_append]
  rw [hq]
  exact h
def wsB_X7_sail : List (List Cond) := [[.code yX7_sail cX7_sail 6 none], wsX7_sail_r1, wsX7_sail_r2, wsX70, wsX10, wsX30]
theorem wsB_X7_sail_in : ∀ w ∈ wsB_X7_sail.flatten, w ∈ wsX7_sail := fun w h => by
  have hq : wsX7_sail = wsB_X7_sail.flatten := by
    simp only [wsX7_sail, wsB_X7_sail, List.flatten_cons, List.flatten_nil, List.append_assoc, List.append_nil, List.cons_append, List.nil_append]
  rw [hq]
  exact h
def wsB_X9_reckon : List (List Cond) := [[.code yX9_reckon cX9_reckon 6 (some .int)], wsX9_reckon_r1, wsX9_reckon_r2, wsX90, wsX70, wsX10, wsX30]
theorem wsB_X9_reckon_in : ∀ w ∈ wsB_X9_reckon.flatten, w ∈ wsX9_reckon := fun w h => by
  have hq : wsX9_reckon = wsB_X9_reckon.flatten := by
    simp only [wsX9_reckon, wsB_X9_reckon, List.flatten_cons, List.flatten_nil, List.append_assoc, List.append_nil, List.cons_append, List.nil_append]
  rw [hq]
  exact h
