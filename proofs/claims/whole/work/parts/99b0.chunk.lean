/-! The law's words, in rows of 24: a word by its row and its place there -/
def lwB : List (List Cond) := [wsL_law0_r1, wsL_law0_r2, wsL_law0_r3, wsL_law0_r4, wsL_law0_r5, wsL_law0_r6, wsL_law0_r7, wsL_law0_r8, wsL_law0_r9, wsL_law0_r10, wsL_law0_r11, wsL_law0_r12, wsL_law0_r13, wsL_law0_r14, wsL_law0_r15, wsL_law0_r16, wsL_law0_r17, wsL_law0_r18, wsL_law0_r19, wsL_law0_r20, wsL_law0_r21, wsL_law0_r22, wsL_law0_r23, wsL_law0_r24, wsL_law0_r25, wsL_law0_r26, wsL_law0_r27, wsL_law0_r28, wsL_law0_r29, wsL_law0_r30, wsL_law0_r31, wsL_law0_r32, wsL_law0_r33, wsL_law0_r34, wsL_law0_r35, wsL_law0_r36, wsL_law0_r37, wsL_law0_r38, wsL_law0_r39, wsL_law0_r40, wsL_law0_r41, wsL_law0_r42, wsL_law0_r43, wsL_law0_r44, wsL_law0_r45, wsL_law0_r46, wsL_law0_r47, wsL_law0_r48, wsL_law0_r49, wsL_law0_r50, wsL_law0_r51, wsL_law0_r52, wsL_law0_r53, wsX110, wsX140, wsX100, wsX70, wsX90, wsX30, wsX10, wsX50, wsX20, wsX130, wsX120, wsX60, wsX40]
theorem lwB_eq : wsL_law0 = lwB.flatten := by
  simp only [wsL_law0, lwB, List.flatten_cons, List.flatten_nil, List.append_assoc, List.append_nil]
theorem lwB_in : ∀ w ∈ lwB.flatten, w ∈ wsL_law := fun w h => List.mem_append_left _ (List.mem_append_left _ (List.mem_append_left _ (by rw [lwB_eq]; exact h)))
theorem goodIn_cons {big l : List Cond} {c : Cond} (hc : GoodIn big [c]) (hl : GoodIn big l) : GoodIn big (c :: l) := fun w h => (List.mem_cons.mp h).elim (fun e => hc w (by rw [e]; exact List.mem_cons_self)) (hl w)
theorem gq_X110 : GoodIn wsL_law wsX110 := goodIn_sub (fun w h => lwB_in w (List.mem_flatten.mpr ⟨wsX110, List.mem_of_getElem? (i := 53) rfl, h⟩)) (by decide +kernel)
theorem gq_X140 : GoodIn wsL_law wsX140 := goodIn_sub (fun w h => lwB_in w (List.mem_flatten.mpr ⟨wsX140, List.mem_of_getElem? (i := 54) rfl, h⟩)) (by decide +kernel)
theorem gq_X100 : GoodIn wsL_law wsX100 := goodIn_sub (fun w h => lwB_in w (List.mem_flatten.mpr ⟨wsX100, List.mem_of_getElem? (i := 55) rfl, h⟩)) (by decide +kernel)
theorem gq_X70 : GoodIn wsL_law wsX70 := goodIn_sub (fun w h => lwB_in w (List.mem_flatten.mpr ⟨wsX70, List.mem_of_getElem? (i := 56) rfl, h⟩)) (by decide +kernel)
theorem gq_X90 : GoodIn wsL_law wsX90 := goodIn_sub (fun w h => lwB_in w (List.mem_flatten.mpr ⟨wsX90, List.mem_of_getElem? (i := 57) rfl, h⟩)) (by decide +kernel)
theorem gq_X30 : GoodIn wsL_law wsX30 := goodIn_sub (fun w h => lwB_in w (List.mem_flatten.mpr ⟨wsX30, List.mem_of_getElem? (i := 58) rfl, h⟩)) (by decide +kernel)
theorem gq_X10 : GoodIn wsL_law wsX10 := goodIn_sub (fun w h => lwB_in w (List.mem_flatten.mpr ⟨wsX10, List.mem_of_getElem? (i := 59) rfl, h⟩)) (by decide +kernel)
theorem gq_X50 : GoodIn wsL_law wsX50 := goodIn_sub (fun w h => lwB_in w (List.mem_flatten.mpr ⟨wsX50, List.mem_of_getElem? (i := 60) rfl, h⟩)) (by decide +kernel)
theorem gq_X20 : GoodIn wsL_law wsX20 := goodIn_sub (fun w h => lwB_in w (List.mem_flatten.mpr ⟨wsX20, List.mem_of_getElem? (i := 61) rfl, h⟩)) (by decide +kernel)
theorem gq_X130 : GoodIn wsL_law wsX130 := goodIn_sub (fun w h => lwB_in w (List.mem_flatten.mpr ⟨wsX130, List.mem_of_getElem? (i := 62) rfl, h⟩)) (by decide +kernel)
theorem gq_X120 : GoodIn wsL_law wsX120 := goodIn_sub (fun w h => lwB_in w (List.mem_flatten.mpr ⟨wsX120, List.mem_of_getElem? (i := 63) rfl, h⟩)) (by decide +kernel)
theorem gq_X60 : GoodIn wsL_law wsX60 := goodIn_sub (fun w h => lwB_in w (List.mem_flatten.mpr ⟨wsX60, List.mem_of_getElem? (i := 64) rfl, h⟩)) (by decide +kernel)
theorem gq_X40 : GoodIn wsL_law wsX40 := goodIn_sub (fun w h => lwB_in w (List.mem_flatten.mpr ⟨wsX40, List.mem_of_getElem? (i := 65) rfl, h⟩)) (by decide +kernel)
theorem gq_v0 : GoodIn wsL_law ((vx_atS RX11 37 "java/lang/IllegalStateException" ["java/lang/RuntimeException", "java/lang/Exception"]).filter goodWord) := goodIn_sub (fun _ h => List.mem_append_left _ (List.mem_append_left _ (List.mem_append_right _ h))) (by decide +kernel)
theorem gq_v1 : GoodIn wsL_law ((vx_atS RX11 48 "java/lang/IllegalArgumentException" ["java/lang/RuntimeException", "java/lang/Exception"]).filter goodWord) := goodIn_sub (fun _ h => List.mem_append_left _ (List.mem_append_right _ h)) (by decide +kernel)
theorem gq_v2 : GoodIn wsL_law ((vx_atS RX11 96 "java/lang/IndexOutOfBoundsException" ["java/lang/RuntimeException", "java/lang/Exception"]).filter goodWord) := goodIn_sub (fun _ h => List.mem_append_right _ h) (by decide +kernel)
