/-! The law's words, in rows of 24: a word by its row and its place there -/
theorem goodIn_rr {big : List Cond} {B : List (List Cond)} (hB : ∀ w ∈ B.flatten, w ∈ big) (ws : List Cond) (ps : List (Nat × Nat)) (hp : ws = ps.filterMap (fun q => (B.getD q.1 [])[q.2]?)) (h : ws.all goodWord = true) : GoodIn big ws := by
  intro w hw
  have h1 := List.all_eq_true.mp h w hw
  rw [hp] at hw
  obtain ⟨q, -, hi⟩ := List.mem_filterMap.mp hw
  have hm : w ∈ B.getD q.1 [] := List.mem_of_getElem? hi
  have hx : w ∈ B.flatten := by
    rw [List.getD_eq_getElem?_getD] at hm
    cases hq : B[q.1]? with
    | none => rw [hq] at hm; exact absurd hm List.not_mem_nil
    | some l => rw [hq] at hm; exact List.mem_flatten.mpr ⟨l, List.mem_of_getElem? hq, hm⟩
  exact ⟨hB w hx, good_of_word h1⟩
def lwB : List (List Cond) := [wsL_law0_r1, wsL_law0_r2, wsL_law0_r3, wsL_law0_r4, wsL_law0_r5, wsL_law0_r6, wsL_law0_r7, wsL_law0_r8, wsL_law0_r9, wsL_law0_r10, wsL_law0_r11, wsL_law0_r12, wsL_law0_r13, wsL_law0_r14, wsL_law0_r15, wsL_law0_r16, wsL_law0_r17, wsL_law0_r18, wsL_law0_r19, wsL_law0_r20, wsL_law0_r21, wsL_law0_r22, wsL_law0_r23, wsL_law0_r24, wsL_law0_r25, wsL_law0_r26, wsL_law0_r27, wsL_law0_r28, wsL_law0_r29, wsL_law0_r30, wsL_law0_r31, wsL_law0_r32, wsL_law0_r33, wsL_law0_r34, wsL_law0_r35, wsL_law0_r36, wsL_law0_r37, wsL_law0_r38, wsL_law0_r39, wsL_law0_r40, wsL_law0_r41, wsL_law0_r42, wsL_law0_r43, wsL_law0_r44, wsL_law0_r45, wsL_law0_r46, wsL_law0_r47, wsL_law0_r48, wsL_law0_r49, wsL_law0_r50, wsL_law0_r51, wsL_law0_r52, wsL_law0_r53, wsX110, wsX140, wsX100, wsX70, wsX90, wsX30, wsX10, wsX50, wsX20, wsX130, wsX120, wsX60, wsX40]
theorem lwB_eq : wsL_law0 = lwB.flatten := by
  simp only [wsL_law0, lwB, List.flatten_cons, List.flatten_nil, List.append_assoc, List.append_nil]
theorem lwB_in : ∀ w ∈ lwB.flatten, w ∈ wsL_law := fun w h => List.mem_append_left _ (List.mem_append_left _ (List.mem_append_left _ (by rw [lwB_eq]; exact h)))
