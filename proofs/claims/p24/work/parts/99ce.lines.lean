/-! ## Pure: lines of items -/
def lnI (x : List (Nat × Nat × List Nat) × List Nat × List (Nat × Nat)) : List (Nat × Nat × List Nat) := x.1 ++ [(29, 0, x.2.1)]
def kdA (l : List (Nat × Nat × List Nat)) (i : Nat) : Nat := kdI (l.getD i (0, 0, [])).1
def vlA (l : List (Nat × Nat × List Nat)) (i : Nat) : Nat := if kdA l i = 40 ∨ kdA l i = 41 then vlI (l.getD i (0, 0, [])).1 (l.getD i (0, 0, [])).2.1 else 0
def okL : List (Nat × Nat × List Nat) → Prop
  | [] => True
  | x :: r => okI x ∧ okL r
theorem okL_m : ∀ {l : List (Nat × Nat × List Nat)}, okL l → ∀ x ∈ l, okI x
  | [], _, x, hx => by cases hx
  | y :: r, h, x, hx => by
    rcases List.mem_cons.mp hx with e | e
    · rw [e]; exact h.1
    · exact okL_m h.2 x e
/-- a line: its items, its text, what is told (signs of events, values at their tokens) -/
def LNE (x : List (Nat × Nat × List Nat) × List Nat × List (Nat × Nat)) (t : List Nat) (tv : List (Nat × Nat)) : Prop :=
  flT ((lnI x).map itI) = t ∧ chI (lnI x) = true ∧ okL (lnI x) ∧ (∃ y r, x.1 = y :: r ∧ y.1 < 25) ∧ (∀ r, ln1 (tmG ((lnI x).map fun y => kdI y.1) r) 0 = some (some x.2.2, x.1.length)) ∧ x.2.2.map (fun y => (y.1, vlA (lnI x) y.2)) = tv ∧ (x.2.2.all fun y => decide (y.2 < (lnI x).length)) = true
def flI : List (List (Nat × Nat × List Nat) × List Nat × List (Nat × Nat)) → List (Nat × Nat × List Nat)
  | [] => []
  | x :: r => lnI x ++ flI r
def evA : Nat → List (List (Nat × Nat × List Nat) × List Nat × List (Nat × Nat)) → List (Nat × Nat)
  | _, [] => []
  | k, x :: r => x.2.2.map (fun y => (y.1, y.2 + k)) ++ evA (k + (lnI x).length) r
def LNS : List (List (Nat × Nat × List Nat) × List Nat × List (Nat × Nat)) → List Nat → List (Nat × Nat) → Prop
  | [], t, tv => t = [] ∧ tv = []
  | x :: r, t, tv => ∃ t1 t2 v1 v2, t = t1 ++ t2 ∧ tv = v1 ++ v2 ∧ LNE x t1 v1 ∧ LNS r t2 v2
theorem LNS_app : ∀ {a b : List (List (Nat × Nat × List Nat) × List Nat × List (Nat × Nat))} {t u : List Nat} {v w : List (Nat × Nat)}, LNS a t v → LNS b u w → LNS (a ++ b) (t ++ u) (v ++ w)
  | [], b, t, u, v, w, h, k => by
    rw [h.1, h.2]; exact k
  | x :: r, b, t, u, v, w, h, k => by
    obtain ⟨t1, t2, v1, v2, e1, e2, h1, h2⟩ := h
    exact ⟨t1, t2 ++ u, v1, v2 ++ w, by rw [e1, List.append_assoc], by rw [e2, List.append_assoc], h1, LNS_app h2 k⟩
theorem LNS_one {x : List (Nat × Nat × List Nat) × List Nat × List (Nat × Nat)} {t : List Nat} {v : List (Nat × Nat)} (h : LNE x t v) : LNS [x] t v := ⟨t, [], v, [], (List.append_nil _).symm, (List.append_nil _).symm, h, rfl, rfl⟩
theorem flT_app : ∀ (a b : List (List Nat × List Nat)), flT (a ++ b) = flT a ++ flT b
  | [], b => rfl
  | (w, c) :: r, b => by
    show w ++ (c ++ flT (r ++ b)) = w ++ (c ++ flT r) ++ flT b
    rw [flT_app r b]; simp [List.append_assoc]
theorem LNS_t : ∀ {a : List (List (Nat × Nat × List Nat) × List Nat × List (Nat × Nat))} {t : List Nat} {v : List (Nat × Nat)}, LNS a t v → flT ((flI a).map itI) = t
  | [], t, v, h => h.1.symm
  | x :: r, t, v, h => by
    obtain ⟨t1, t2, v1, v2, e1, e2, h1, h2⟩ := h
    show flT ((lnI x ++ flI r).map itI) = t
    rw [List.map_append, flT_app, h1.1, LNS_t h2, e1]
theorem LNS_o : ∀ {a : List (List (Nat × Nat × List Nat) × List Nat × List (Nat × Nat))} {t : List Nat} {v : List (Nat × Nat)}, LNS a t v → ∀ x ∈ flI a, okI x
  | [], t, v, h, x, hx => by cases hx
  | y :: r, t, v, h, x, hx => by
    obtain ⟨t1, t2, v1, v2, e1, e2, h1, h2⟩ := h
    rcases List.mem_append.mp (show x ∈ lnI y ++ flI r from hx) with e | e
    · exact okL_m h1.2.2.1 x e
    · exact LNS_o h2 x e
theorem LNS_h : ∀ {a : List (List (Nat × Nat × List Nat) × List Nat × List (Nat × Nat))} {t : List Nat} {v : List (Nat × Nat)}, LNS a t v → ∀ y, (flI a).head? = some y → y.1 < 25
  | [], t, v, h, y, hy => by cases hy
  | x :: r, t, v, h, y, hy => by
    obtain ⟨t1, t2, v1, v2, e1, e2, h1, h2⟩ := h
    obtain ⟨z, q, hz, h25⟩ := h1.2.2.2.1
    have : (lnI x ++ flI r).head? = some y := hy
    unfold lnI at this
    rw [hz] at this
    cases this
    exact h25
theorem LNS_c : ∀ {a : List (List (Nat × Nat × List Nat) × List Nat × List (Nat × Nat))} {t : List Nat} {v : List (Nat × Nat)}, LNS a t v → chI (flI a) = true
  | [], t, v, h => rfl
  | x :: r, t, v, h => by
    obtain ⟨t1, t2, v1, v2, e1, e2, h1, h2⟩ := h
    exact chI_a x.1 0 x.2.1 (flI r) h1.2.1 (LNS_c h2) (LNS_h h2)
theorem kdA_l {a b : List (Nat × Nat × List Nat)} {i : Nat} (h : i < a.length) : kdA (a ++ b) i = kdA a i := by
  unfold kdA
  rw [List.getD_eq_getElem?_getD, List.getD_eq_getElem?_getD, List.getElem?_append_left h]
theorem kdA_r {a b : List (Nat × Nat × List Nat)} {i : Nat} : kdA (a ++ b) (a.length + i) = kdA b i := by
  unfold kdA
  rw [List.getD_eq_getElem?_getD, List.getD_eq_getElem?_getD, List.getElem?_append_right (by omega), Nat.add_sub_cancel_left]
theorem vlA_l {a b : List (Nat × Nat × List Nat)} {i : Nat} (h : i < a.length) : vlA (a ++ b) i = vlA a i := by
  unfold vlA
  rw [kdA_l h, List.getD_eq_getElem?_getD, List.getD_eq_getElem?_getD, List.getElem?_append_left h]
theorem vlA_r {a b : List (Nat × Nat × List Nat)} {i : Nat} : vlA (a ++ b) (a.length + i) = vlA b i := by
  unfold vlA
  rw [kdA_r, List.getD_eq_getElem?_getD, List.getD_eq_getElem?_getD, List.getElem?_append_right (by omega), Nat.add_sub_cancel_left]
theorem sq_so {f : Nat → Option (Option (List (Nat × Nat)) × Nat)} {a b : List (Nat × Nat)} {k k2 : Nat} (h : f k = some (some b, k2)) : sq (some (some a, k)) f = some (some (a ++ b), k2) := by
  show (match f k with | none => none | some (none, k1) => some (none, k1) | some (some es1, k1) => some (some (a ++ es1), k1)) = _
  rw [h]
/-- the events of all lines -/
theorem LNS_x {g : Nat → Nat} : ∀ {a : List (List (Nat × Nat × List Nat) × List Nat × List (Nat × Nat))} {t : List Nat} {v : List (Nat × Nat)} (k m : Nat), LNS a t v → a.length < m → (∀ i, i < (flI a).length → g (k + i) = kdA (flI a) i) → g (k + (flI a).length) = 42 → txL g m k = some (some (evA k a), k + (flI a).length)
  | [], t, v, k, 0, _, hm, _, _ => absurd hm (by omega)
  | x :: r, t, v, k, 0, _, hm, _, _ => absurd hm (by omega)
  | [], t, v, k, m + 1, h, hm, hg, he => by
    have he : g k = 42 := he
    rw [txL, if_pos he]; rfl
  | x :: r, t, v, k, m + 1, h, hm, hg, he => by
    obtain ⟨t1, t2, v1, v2, e1, e2, h1, h2⟩ := h
    have el : (flI (x :: r)).length = (lnI x).length + (flI r).length := List.length_append
    have ll : (lnI x).length = x.1.length + 1 := by unfold lnI; rw [List.length_append]; rfl
    have g1 : ∀ i, i < (lnI x).length → g (k + i) = kdA (lnI x) i := fun i hi => by
      rw [hg i (by omega)]; exact kdA_l hi
    have g2 : ∀ i, i < (flI r).length → g (k + (lnI x).length + i) = kdA (flI r) i := fun i hi => by
      rw [Nat.add_assoc, hg _ (by omega)]; exact kdA_r
    obtain ⟨z, q, hz, h25⟩ := h1.2.2.2.1
    have g0 : g k = kdI z.1 := by
      have := g1 0 (by omega)
      rw [Nat.add_zero] at this
      rw [this]; unfold kdA lnI; rw [hz]; rfl
    have n42 : g k ≠ 42 := by
      rw [g0]; unfold kdI; rw [if_neg (by omega)]; omega
    have g29 : g (x.1.length + k) = 29 := by
      have := g1 x.1.length (by omega)
      rw [Nat.add_comm, this]
      unfold kdA lnI
      rw [List.getD_eq_getElem?_getD, List.getElem?_append_right (Nat.le_refl _), Nat.sub_self]
      rfl
    have hl := ln1_tm (g := g) (k0 := k) h1.2.2.2.2.1 (fun i hi => by
      rw [List.length_map] at hi
      rw [g1 i hi]
      unfold kdA
      rw [List.getD_eq_getElem?_getD, List.getD_eq_getElem?_getD, List.getElem?_map, List.getElem?_eq_getElem hi]
      rfl)
    have ih := LNS_x (k + (lnI x).length) m h2 (by have : r.length + 1 < m + 1 := hm; omega) g2 (by rw [Nat.add_assoc, ← el]; exact he)
    rw [txL, if_neg n42, hl]
    have e3 : tk1 g 29 (x.1.length + k) = some (some [], k + (lnI x).length) := by
      unfold tk1
      rw [if_pos g29, ll, show x.1.length + k + 1 = k + (x.1.length + 1) by omega]
    have e4 : sq (tk1 g 29 (x.1.length + k)) (txL g m) = some (some ([] ++ evA (k + (lnI x).length) r), k + (lnI x).length + (flI r).length) := by
      rw [e3]; exact sq_so ih
    rw [el, ← Nat.add_assoc]
    exact sq_so (f := fun k => sq (tk1 g 29 k) (txL g m)) e4
theorem LNS_v {vs : Nat → Nat} : ∀ {a : List (List (Nat × Nat × List Nat) × List Nat × List (Nat × Nat))} {t : List Nat} {v : List (Nat × Nat)} (k : Nat), LNS a t v → (∀ i, i < (flI a).length → vs (k + i) = vlA (flI a) i) → (evA k a).map (fun y => (y.1, vs y.2)) = v
  | [], t, v, k, h, _ => h.2.symm
  | x :: r, t, v, k, h, hv => by
    obtain ⟨t1, t2, v1, v2, e1, e2, h1, h2⟩ := h
    have el : (flI (x :: r)).length = (lnI x).length + (flI r).length := List.length_append
    rw [e2, evA, List.map_append, LNS_v (k + (lnI x).length) h2 (fun i hi => by
      rw [Nat.add_assoc, hv _ (by omega)]; exact vlA_r), ← h1.2.2.2.2.2.1, List.map_map]
    congr 1
    refine List.map_congr_left fun y hy => ?_
    have hl := of_decide_eq_true ((List.all_eq_true.mp h1.2.2.2.2.2.2) y hy)
    show (y.1, vs (y.2 + k)) = (y.1, vlA (lnI x) y.2)
    rw [Nat.add_comm, hv _ (by omega)]
    show (y.1, vlA (lnI x ++ flI r) y.2) = _
    rw [vlA_l hl]
theorem flI_app : ∀ (a b : List (List (Nat × Nat × List Nat) × List Nat × List (Nat × Nat))), flI (a ++ b) = flI a ++ flI b
  | [], b => rfl
  | x :: r, b => by
    show lnI x ++ flI (r ++ b) = lnI x ++ flI r ++ flI b
    rw [flI_app r b, List.append_assoc]
/-- the tokens of all lines -/
theorem LNS_k {a : List (List (Nat × Nat × List Nat) × List Nat × List (Nat × Nat))} {t : List Nat} {v : List (Nat × Nat)} (h : LNS a t v) (hl : (flI a).length < 400) : (∀ i, i < (flI a).length → tok (txF t) t.length i = kdA (flI a) i ∧ (kdA (flI a) i = 40 ∨ kdA (flI a) i = 41 → tkJ (txF t) t.length (pos (txF t) t.length i) = some (vlA (flI a) i))) ∧ tok (txF t) t.length (flI a).length = 42 := by
  have ok := IOK_P (flI a) (LNS_c h) (LNS_o h)
  have h0 : isB ((flT ((flI a).map itI)).headD 0) = false := by
    cases e : flI a with
    | nil => decide
    | cons y r =>
      have iy : okI y := LNS_o h y (by rw [e]; exact List.mem_cons_self)
      rw [flT_h iy]
      exact (wd_P iy).1.2.2.1
  obtain ⟨k1, k2⟩ := lex ok h0 (by rw [List.length_map]; exact hl)
  rw [LNS_t h, List.length_map] at k2
  rw [LNS_t h] at k1
  refine ⟨fun i hi => ?_, k2⟩
  have io : okI ((flI a)[i]) := LNS_o h _ (List.getElem_mem hi)
  have hg : ((flI a).map itI)[i]? = some (wdI ((flI a)[i]).1 ((flI a)[i]).2.1, ((flI a)[i]).2.2) := by
    rw [List.getElem?_map, List.getElem?_eq_getElem hi]; rfl
  obtain ⟨q1, q2⟩ := k1 i _ _ hg
  have ed : (flI a).getD i (0, 0, []) = (flI a)[i] := by
    rw [List.getD_eq_getElem?_getD, List.getElem?_eq_getElem hi]; rfl
  obtain ⟨w1, w2⟩ := wd_P io
  have ek : kdA (flI a) i = kdI ((flI a)[i]).1 := by unfold kdA; rw [ed]
  refine ⟨by rw [q1, ek]; exact w1.2.2.2.2.2.2.2, fun z => ?_⟩
  rw [q2]
  unfold vlA
  rw [if_pos z, ed]
  refine w2 ?_
  rw [ek] at z
  unfold kdI at z
  split at z <;> omega
