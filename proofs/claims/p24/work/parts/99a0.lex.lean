/-! ## Pure: the tokens of a text that is made of items: a spelling, and the blanks behind it -/
def txF (L : List Nat) : Nat → Nat := fun i => L.getD i 0
theorem txF_at {A w R : List Nat} {j : Nat} (h : j < w.length) : txF (A ++ (w ++ R)) (A.length + j) = w.getD j 0 := by
  unfold txF
  rw [List.getD_eq_getElem?_getD, List.getD_eq_getElem?_getD, List.getElem?_append_right (by omega), show A.length + j - A.length = j by omega, List.getElem?_append_left h]
theorem txF_nx {A w R : List Nat} : txF (A ++ (w ++ R)) (A.length + w.length) = R.headD 0 := by
  unfold txF
  rw [List.getD_eq_getElem?_getD, List.getElem?_append_right (by omega), show A.length + w.length - A.length = w.length by omega, List.getElem?_append_right (by omega), Nat.sub_self]
  cases R <;> rfl
theorem stp_run {P : Nat → Bool} {T : Nat → Nat} : ∀ (d d1 q : Nat), d1 ≤ d → (∀ j, j < d1 → P (T (q + j)) = true) → (d1 = d ∨ P (T (q + d1)) = false) → stp P T d q = q + d1
  | 0, d1, q, h, _, _ => by
    rw [show d1 = 0 by omega]; rfl
  | d + 1, 0, q, _, _, h => by
    have h : P (T q) = false := by
      rcases h with h | h
      · omega
      · exact h
    rw [stp, if_neg (by rw [h]; decide)]; rfl
  | d + 1, d1 + 1, q, h, h1, h2 => by
    have h10 : P (T q) = true := h1 0 (by omega)
    rw [stp, if_pos h10, stp_run d d1 (q + 1) (by omega) (fun j hj => by
      have := h1 (j + 1) (by omega)
      rwa [show q + (j + 1) = q + 1 + j by omega] at this) (by
      rcases h2 with h2 | h2
      · exact .inl (by omega)
      · exact .inr (by rwa [show q + (d1 + 1) = q + 1 + d1 by omega] at h2))]
    omega
theorem fndN_cg {q r : Nat → Bool} : ∀ (d i : Nat), (∀ j, i ≤ j → j < i + d → q j = r j) → fndN q d i = fndN r d i
  | 0, _, _ => rfl
  | d + 1, i, h => by
    rw [fndN, fndN, h i (Nat.le_refl _) (by omega), fndN_cg d (i + 1) (fun j h1 h2 => h j (by omega) (by omega))]
theorem alN_iff {q : Nat → Bool} : ∀ (d i : Nat), alN q d i = true ↔ ∀ j, i ≤ j → j < i + d → q j = true
  | 0, i => ⟨fun _ j h1 h2 => absurd h2 (by omega), fun _ => rfl⟩
  | d + 1, i => by
    rw [alN]
    by_cases c : q i = true
    · rw [if_pos c, alN_iff d (i + 1)]
      exact ⟨fun h j h1 h2 => by
        by_cases e : j = i
        · subst e; exact c
        · exact h j (by omega) (by omega), fun h j h1 h2 => h j (by omega) (by omega)⟩
    · rw [if_neg c]
      exact ⟨fun h => absurd h (by decide), fun h => absurd (h i (Nat.le_refl _) (by omega)) c⟩
/-- the sign that is spelled so -/
def sgK (w : List Nat) : Option Nat := fndN (fun i => decide (gSb.getD i [] = w.map nI)) 45 0
theorem gSl_len : ∀ i, i < 45 → sLn i = (gSb.getD i []).length := by decide +kernel
theorem mt_it {A w : List Nat} {T : Nat → Nat} {n i : Nat} (hT : ∀ j, j < w.length → T (A.length + j) = w.getD j 0) (hn : A.length + w.length ≤ n) (hb : ∀ c ∈ w, c < 128) (hi : i < 45) : mt T n A.length w.length i = decide (gSb.getD i [] = w.map nI) := by
  have hq : ∀ j, j < w.length → tb T n (A.length + j) = (w.map nI).getD j 0 := fun j hj => by
    unfold tb
    rw [if_pos (by omega), hT j hj]
    have hw : w.getD j 0 ∈ w := by
      rw [List.getD_eq_getElem?_getD, List.getElem?_eq_getElem hj]; exact List.getElem_mem hj
    rw [sB_lo (hb _ hw), List.getD_eq_getElem?_getD, List.getD_eq_getElem?_getD, List.getElem?_map, List.getElem?_eq_getElem hj]
    rfl
  rw [Bool.eq_iff_iff]
  unfold mt
  rw [Bool.and_eq_true, decide_eq_true_eq, decide_eq_true_eq, alN_iff, gSl_len i hi]
  constructor
  · rintro ⟨h1, h2⟩
    apply List.ext_getElem?
    intro j
    by_cases hj : j < w.length
    · have h3 := h2 j (by omega) (by omega)
      rw [decide_eq_true_eq, hq j hj] at h3
      unfold sBy at h3
      rw [List.getD_eq_getElem?_getD, List.getD_eq_getElem?_getD, List.getElem?_eq_getElem (show j < (List.map nI w).length by rw [List.length_map]; exact hj), List.getElem?_eq_getElem (show j < (gSb.getD i []).length by rw [h1]; exact hj)] at h3
      rw [List.getElem?_eq_getElem (by rw [h1]; exact hj), List.getElem?_eq_getElem (by rw [List.length_map]; exact hj)]
      exact congrArg some h3.symm
    · rw [List.getElem?_eq_none (by rw [h1]; omega), List.getElem?_eq_none (by rw [List.length_map]; omega)]
  · intro h
    rw [h]
    refine ⟨List.length_map _, fun j h1 h2 => ?_⟩
    rw [decide_eq_true_eq, hq j (by omega)]
    unfold sBy
    rw [h]
/-- of an item: is it a word, a number, a mark -/
def itW (w : List Nat) : Bool := isL (w.headD 0)
def itD (w : List Nat) : Bool := isD (w.headD 0)
def itK (w : List Nat) : Nat := if itW w then (match sgK w with | some i => i | none => 40) else if itD w then 41 else (sgK w).getD 43
def wvL (w : List Nat) : Nat := w.foldl (fun x c => x * 37 + dg c) 0
def nvL (w : List Nat) : Nat := w.foldl (fun x c => x * 10 + (c - 48)) 0
def itJ (w : List Nat) : Option Nat := if itW w then some (wvL w) else if itD w then some (nvL w) else none
/-- an item stands well ahead of the byte c (0: the end) -/
def itO (w b : List Nat) (c : Nat) : Prop := w ≠ [] ∧ (∀ x ∈ w, x < 128) ∧ (∀ x ∈ b, isB x = true) ∧
  (if itW w then (∀ x ∈ w, isA x = true) ∧ w.length ≤ 10 ∧ isA ((b ++ [c]).headD 0) = false
   else if itD w then (∀ x ∈ w, isD x = true) ∧ w.length ≤ 6 ∧ isD ((b ++ [c]).headD 0) = false
   else sgK w ≠ none ∧ isB (w.headD 0) = false ∧ (w.length = 2 ∨ (w.length = 1 ∧ ((w.headD 0 ≠ 60 ∧ w.headD 0 ≠ 62) ∨ ((b ++ [c]).headD 0 ≠ 61 ∧ (b ++ [c]).headD 0 < 128)))))
def flT : List (List Nat × List Nat) → List Nat
  | [] => []
  | (w, b) :: r => w ++ (b ++ flT r)
def IOK : List (List Nat × List Nat) → Prop
  | [] => True
  | (w, b) :: r => itO w b ((flT r).headD 0) ∧ (isB ((flT r).headD 0) = false) ∧ IOK r
theorem two_sg : ∀ i, i < 45 → ∀ a b, gSb.getD i [] = [a, b] → (a = nI 103 ∨ a = nI 116 ∨ a = nI 111 ∨ a = nI 60 ∨ a = nI 62) ∧ ((a = nI 60 ∨ a = nI 62) → b = nI 61) := by
  have h : ∀ i, i < 45 → (gSb.getD i []).length = 2 → ((gSb.getD i []).getD 0 0 = nI 103 ∨ (gSb.getD i []).getD 0 0 = nI 116 ∨ (gSb.getD i []).getD 0 0 = nI 111 ∨ (gSb.getD i []).getD 0 0 = nI 60 ∨ (gSb.getD i []).getD 0 0 = nI 62) ∧ (((gSb.getD i []).getD 0 0 = nI 60 ∨ (gSb.getD i []).getD 0 0 = nI 62) → (gSb.getD i []).getD 1 0 = nI 61) := by decide +kernel
  intro i hi a b e
  have := h i hi (by rw [e]; rfl)
  rw [e] at this
  exact this
theorem hd_app (b : List Nat) (R : List Nat) : (b ++ R).headD 0 = (b ++ [R.headD 0]).headD 0 := by
  cases b with
  | nil => cases R <;> rfl
  | cons x b => rfl
/-- one item -/
theorem tk_it {A w b R : List Nat} {n : Nat} (hn : n = (A ++ (w ++ (b ++ R))).length) (h : itO w b (R.headD 0)) : tkG (txF (A ++ (w ++ (b ++ R)))) n A.length = itK w ∧ tkE (txF (A ++ (w ++ (b ++ R)))) n A.length = A.length + w.length ∧ tkJ (txF (A ++ (w ++ (b ++ R)))) n A.length = itJ w := by
  obtain ⟨h0, h1, h2, h3⟩ := h
  have hlen : 0 < w.length := List.length_pos_iff.mpr h0
  have hn' : n = A.length + (w.length + (b.length + R.length)) := by rw [hn]; simp
  have hT : ∀ j, j < w.length → txF (A ++ (w ++ (b ++ R))) (A.length + j) = w.getD j 0 := fun j hj => txF_at hj
  have hnx : txF (A ++ (w ++ (b ++ R))) (A.length + w.length) = (b ++ [R.headD 0]).headD 0 := by rw [txF_nx, hd_app]
  generalize hTT : txF (A ++ (w ++ (b ++ R))) = T at hT hnx
  have hd : T A.length = w.headD 0 := by
    have := hT 0 hlen
    rw [Nat.add_zero] at this
    rw [this]; cases w <;> rfl
  have hmem : ∀ j, j < w.length → w.getD j 0 ∈ w := fun j hj => by
    rw [List.getD_eq_getElem?_getD, List.getElem?_eq_getElem hj]; exact List.getElem_mem hj
  have wvE : ∀ l, l ≤ w.length → wv T A.length l = (w.take l).foldl (fun x c => x * 37 + dg c) 0 := by
    intro l
    induction l with
    | zero => intro _; rfl
    | succ l ih =>
      intro hl
      rw [wv, ih (by omega), hT l (by omega), List.take_add_one, List.foldl_append, List.getD_eq_getElem?_getD, List.getElem?_eq_getElem (show l < w.length by omega)]
      rfl
  have nvE : ∀ l, l ≤ w.length → nv T A.length l = (w.take l).foldl (fun x c => x * 10 + (c - 48)) 0 := by
    intro l
    induction l with
    | zero => intro _; rfl
    | succ l ih =>
      intro hl
      rw [nv, ih (by omega), hT l (by omega), List.take_add_one, List.foldl_append, List.getD_eq_getElem?_getD, List.getElem?_eq_getElem (show l < w.length by omega)]
      rfl
  have hsg : ∀ l, l = w.length → fndN (mt T n A.length l) 45 0 = sgK w := fun l hl => by
    subst hl
    exact fndN_cg 45 0 fun i _ hi => mt_it hT (by omega) h1 (by omega)
  have hlt : A.length < n := by omega
  unfold tkG tkE tkJ itK itJ
  rw [if_pos hlt, if_pos hlt, if_pos hlt, hd]
  by_cases cW : itW w = true
  · have cW' : isL (w.headD 0) = true := cW
    rw [if_pos cW] at h3
    obtain ⟨g1, g2, g3⟩ := h3
    have hE : wEnd T n A.length = A.length + w.length := by
      unfold wEnd
      refine stp_run _ _ _ (by omega) (fun j hj => by rw [hT j hj]; exact g1 _ (hmem j hj)) ?_
      right; rw [hnx]; exact g3
    rw [if_pos cW', if_pos cW', if_pos cW', if_pos cW, if_pos cW]
    unfold wdG
    rw [hE, show A.length + w.length - A.length = w.length by omega, if_pos g2, hsg _ rfl, wvE _ (Nat.le_refl _), List.take_length]
    exact ⟨rfl, rfl, rfl⟩
  · have cW' : ¬ isL (w.headD 0) = true := cW
    rw [if_neg cW] at h3
    rw [if_neg cW', if_neg cW', if_neg cW', if_neg cW, if_neg cW]
    by_cases cD : itD w = true
    · have cD' : isD (w.headD 0) = true := cD
      rw [if_pos cD] at h3
      obtain ⟨g1, g2, g3⟩ := h3
      have hE : nEnd T n A.length = A.length + w.length := by
        unfold nEnd
        refine stp_run _ _ _ (by omega) (fun j hj => by rw [hT j hj]; exact g1 _ (hmem j hj)) ?_
        right; rw [hnx]; exact g3
      rw [if_pos cD', if_pos cD', if_pos cD', if_pos cD, if_pos cD]
      unfold nmG
      rw [hE, show A.length + w.length - A.length = w.length by omega, if_pos g2, nvE _ (Nat.le_refl _), List.take_length]
      exact ⟨rfl, rfl, rfl⟩
    · have cD' : ¬ isD (w.headD 0) = true := cD
      rw [if_neg cD] at h3
      obtain ⟨g1, g2, g3⟩ := h3
      rw [if_neg cD', if_neg cD', if_neg cD', if_neg cD, if_neg cD]
      obtain ⟨i, hi⟩ : ∃ i, sgK w = some i := by
        cases hh : sgK w with
        | none => exact absurd hh g1
        | some i => exact ⟨i, rfl⟩
      rw [hi]
      have key : symG T n A.length = (i, w.length) := by
        unfold symG
        rcases g3 with e | ⟨e, e2⟩
        · rw [show (2 : Nat) = w.length from e.symm, hsg _ rfl, hi]
        · have hno : fndN (mt T n A.length 2) 45 0 = none := by
            cases hf : fndN (mt T n A.length 2) 45 0 with
            | none => rfl
            | some k =>
              exfalso
              obtain ⟨-, k1, k2⟩ := fndN_s 45 0 k hf
              unfold mt at k2
              rw [Bool.and_eq_true, decide_eq_true_eq, alN_iff] at k2
              have b0 := k2.2 0 (by omega) (by omega)
              have b1 := k2.2 1 (by omega) (by omega)
              rw [decide_eq_true_eq] at b0 b1
              have hl := k2.1
              rw [gSl_len k (by omega)] at hl
              obtain ⟨x, y, hxy⟩ : ∃ x y, gSb.getD k [] = [x, y] := by
                match hg : gSb.getD k [], hl with
                | [x, y], _ => exact ⟨x, y, rfl⟩
              obtain ⟨t1, t2⟩ := two_sg k (by omega) x y hxy
              have bx : tb T n (A.length + 0) = x := by
                rw [b0]; unfold sBy; rw [hxy]; rfl
              have by' : tb T n (A.length + 1) = y := by
                rw [b1]; unfold sBy; rw [hxy]; rfl
              have hw0 : w.headD 0 < 128 := by
                have := h1 _ (hmem 0 hlen)
                cases w with
                | nil => exact absurd rfl h0
                | cons q w => exact this
              have bx' : nI (w.headD 0) = x := by
                rw [← bx]; unfold tb
                rw [if_pos (by omega), Nat.add_zero, hd, sB_lo hw0]
              have inj : ∀ c, c < 128 → nI (w.headD 0) = nI c → w.headD 0 = c := fun c hc he => by
                have := congrArg Int32.toNatClampNeg he
                rwa [nI_clamp (by omega), nI_clamp (by omega)] at this
              have cL : ∀ c, isL c = true → w.headD 0 ≠ c := fun c hc he => cW' (by rw [he]; exact hc)
              rcases t1 with t | t | t | t | t
              · exact cL 103 (by decide) (inj 103 (by decide) (bx'.trans t))
              · exact cL 116 (by decide) (inj 116 (by decide) (bx'.trans t))
              · exact cL 111 (by decide) (inj 111 (by decide) (bx'.trans t))
              all_goals
                have hc := inj _ (by decide) (bx'.trans t)
                have hy := t2 (by first | exact .inl t | exact .inr t)
                rcases e2 with ⟨e2, e3⟩ | ⟨e2, e3⟩
                · first | exact e2 hc | exact e3 hc
                · apply e2
                  have h61 : tb T n (A.length + w.length) = nI 61 := by rw [e, by', hy]
                  unfold tb at h61
                  by_cases cc : A.length + w.length < n
                  · rw [if_pos cc, hnx, sB_lo e3] at h61
                    have := congrArg Int32.toNatClampNeg h61
                    rwa [nI_clamp (by omega), nI_clamp (by omega)] at this
                  · rw [if_neg cc] at h61
                    exact absurd h61 (by decide)
          rw [hno]
          show (match fndN (mt T n A.length 1) 45 0 with | some i => (i, 1) | none => (43, 0)) = _
          rw [hsg 1 e.symm, hi, e]
      rw [key]
      exact ⟨rfl, rfl, rfl⟩
/-- the first blanks are none, and the rest of the text stands behind an item -/
theorem skp_it {A b R : List Nat} {n : Nat} (hn : n = (A ++ (b ++ R)).length) (hb : ∀ x ∈ b, isB x = true) (hR : isB (R.headD 0) = false) : skp (txF (A ++ (b ++ R))) n A.length = A.length + b.length := by
  have hn' : n = A.length + (b.length + R.length) := by rw [hn]; simp
  unfold skp
  refine stp_run _ _ _ (by omega) (fun j hj => ?_) ?_
  · rw [txF_at hj]
    refine hb _ ?_
    rw [List.getD_eq_getElem?_getD, List.getElem?_eq_getElem hj]; exact List.getElem_mem hj
  · right
    rw [txF_nx]; exact hR
/-- a text of items, from item i on -/
theorem lex_go {n : Nat} : ∀ (its : List (List Nat × List Nat)) (A : List Nat) (T : Nat → Nat) (i : Nat), T = txF (A ++ flT its) → n = (A ++ flT its).length → IOK its → pos T n i = A.length → i + its.length < 400 → (∀ j w b, its[j]? = some (w, b) → tok T n (i + j) = itK w ∧ tkJ T n (pos T n (i + j)) = itJ w) ∧ tok T n (i + its.length) = 42
  | [], A, T, i, hT, hn, _, hp, hi => by
    refine ⟨fun j w b h => by simp at h, ?_⟩
    have hn' : n = A.length := by rw [hn]; simp [flT]
    show tok T n i = 42
    unfold tok
    rw [if_pos (.inl (by simpa using hi)), hp]
    unfold tkG
    rw [if_neg (by omega)]
  | (w, b) :: r, A, T, i, hT, hn, hok, hp, hi => by
    obtain ⟨h1, h2, h3⟩ := hok
    have hn0 : n = (A ++ (w ++ (b ++ flT r))).length := hn
    have hT0 : T = txF (A ++ (w ++ (b ++ flT r))) := hT
    obtain ⟨k1, k2, k3⟩ := tk_it hn0 h1
    rw [← hT0] at k1 k2 k3
    have hi' : i + (r.length + 1) < 400 := hi
    have hp1 : pos T n (i + 1) = (A ++ w ++ b).length := by
      show skp T n (tkE T n (pos T n i)) = _
      rw [hp, k2]
      have e : A ++ (w ++ (b ++ flT r)) = (A ++ w) ++ (b ++ flT r) := by rw [List.append_assoc]
      have := skp_it (A := A ++ w) (b := b) (R := flT r) (n := n) (by rw [hn0, e]) h1.2.2.1 h2
      rw [hT0, e, show A.length + w.length = (A ++ w).length by rw [List.length_append], this, List.length_append (as := A ++ w)]
    have e2 : A ++ (w ++ (b ++ flT r)) = (A ++ w ++ b) ++ flT r := by simp [List.append_assoc]
    obtain ⟨g1, g2⟩ := lex_go r (A ++ w ++ b) T (i + 1) (by rw [hT0, e2]) (by rw [hn0, e2]) h3 hp1 (by omega)
    refine ⟨fun j w' b' h => ?_, ?_⟩
    · cases j with
      | zero =>
        cases h
        refine ⟨?_, ?_⟩
        · show tok T n i = _
          unfold tok
          rw [if_pos (.inl (by omega)), hp]
          exact k1
        · show tkJ T n (pos T n i) = _
          rw [hp]; exact k3
      | succ j =>
        have := g1 j w' b' (by simpa using h)
        rwa [show i + 1 + j = i + (j + 1) by omega] at this
    · have e3 : i + ((w, b) :: r).length = i + 1 + r.length := by simp [List.length_cons]; omega
      rw [e3]; exact g2
/-- the tokens of a text of items -/
theorem lex {its : List (List Nat × List Nat)} (h : IOK its) (h0 : isB ((flT its).headD 0) = false) (hl : its.length < 400) : (∀ j w b, its[j]? = some (w, b) → tok (txF (flT its)) (flT its).length j = itK w ∧ tkJ (txF (flT its)) (flT its).length (pos (txF (flT its)) (flT its).length j) = itJ w) ∧ tok (txF (flT its)) (flT its).length its.length = 42 := by
  have hp : pos (txF (flT its)) (flT its).length 0 = ([] : List Nat).length := by
    have := skp_it (A := []) (b := []) (R := flT its) (n := (flT its).length) rfl (fun x hx => by cases hx) h0
    exact this
  have := lex_go its [] (txF (flT its)) 0 rfl rfl h hp (by omega)
  simpa using this
