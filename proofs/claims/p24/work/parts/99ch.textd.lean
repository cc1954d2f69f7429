/-! ## Pure: the whole text as lines, 4 (written by gen99cf.py) -/
theorem mbV_19 {b F : Nat} : ∀ k, ∀ x ∈ mbV b F k, x.1 ≠ 19
  | 0, x, hx => by cases hx
  | k + 1, x, hx => by
    rcases List.mem_append.mp hx with h | h
    · exact mbV_19 k x h
    · rw [List.mem_singleton.mp h]; show (62 : Nat) ≠ 19; decide
theorem szV_19 : ∀ (zs : List Nat) (k : Nat), ∀ x ∈ szV k zs, x.1 ≠ 19
  | [], k, x, hx => by cases hx
  | z :: r, k, x, hx => by
    rcases List.mem_cons.mp hx with h | h
    · rw [h]; show 1000 + k ≠ 19; omega
    · exact szV_19 r (k + 1) x h
theorem any_19 {l : List (Nat × Nat)} (h : (l.any fun x => decide (x.1 = 19)) = false) : ∀ x ∈ l, x.1 ≠ 19 := fun x hx e => by
  have := List.any_eq_false.mp h x hx
  exact this (decide_eq_true e)
theorem gs_ls : ∀ (l : List (Nat × List Nat)) (g : Nat), (∀ y ∈ l, gOk y) → g + l.length ≤ 8 → ∃ a tv, LNS a (gTs g l) tv ∧ (flI a).length ≤ 15 * l.length ∧ a.length = l.length ∧ (∀ B P ms n, wkA (nmR 103 0 g, B, P, ms, n) tv ∧ wkF (nmR 103 0 g, B, P, ms, n) tv = (nmR 103 0 (g + l.length), B, P, ms, n)) ∧ ∀ x ∈ tv, x.1 ≠ 19
  | [], g, _, _ => ⟨[], [], ⟨rfl, rfl⟩, Nat.le_refl _, rfl, fun B P ms n => ⟨trivial, rfl⟩, fun x hx => by cases hx⟩
  | (r, zs) :: l, g, h, hl => by
    have hl' : g + (l.length + 1) ≤ 8 := hl
    have h0 := h (r, zs) List.mem_cons_self
    obtain ⟨x, e1, e2⟩ := gn_ls (g := g) (by omega) h0
    obtain ⟨a, tv, i1, i2, i3, i4, i5⟩ := gs_ls l (g + 1) (fun y hy => h y (List.mem_cons_of_mem _ hy)) (by omega)
    refine ⟨x :: a, _ ++ tv, ⟨_, _, _, _, rfl, rfl, e1, i1⟩, ?_, by rw [List.length_cons, List.length_cons, i3], fun B P ms n => ?_, fun y hy => ?_⟩
    · show (lnI x ++ flI a).length ≤ _
      rw [List.length_append, List.length_cons]; omega
    · rw [List.length_cons, show g + (l.length + 1) = g + 1 + l.length by omega]
      exact wkA_both (wk_G (by omega) ⟨h0.1, h0.2.1⟩ h0.2.2.2.1 h0.2.2.2.2) (i4 B P ms n)
    · rcases List.mem_append.mp hy with q | q
      · rcases List.mem_cons.mp q with q | q
        · rw [q]; show (51 : Nat) ≠ 19; decide
        · rcases List.mem_cons.mp q with q | q
          · rw [q]; show (55 : Nat) ≠ 19; decide
          · exact szV_19 _ _ y q
      · exact i5 y q
theorem fs_ls : ∀ (l : List (Nat × Nat × Nat)) (f : Nat), (∀ y ∈ l, fOk y) → f + l.length ≤ 8 → ∃ a tv, LNS a (fTs f l) tv ∧ (flI a).length ≤ 9 * l.length ∧ a.length = l.length ∧ (∀ A P ms n, wkA (A, nmR 102 0 f, P, ms, n) tv ∧ wkF (A, nmR 102 0 f, P, ms, n) tv = (A, nmR 102 0 (f + l.length), P, ms, n)) ∧ ∀ x ∈ tv, x.1 ≠ 19
  | [], f, _, _ => ⟨[], [], ⟨rfl, rfl⟩, Nat.le_refl _, rfl, fun B P ms n => ⟨trivial, rfl⟩, fun x hx => by cases hx⟩
  | (m, w, h) :: l, f, hy, hl => by
    have hl' : f + (l.length + 1) ≤ 8 := hl
    obtain ⟨k1, k2, k3⟩ := hy (m, w, h) List.mem_cons_self
    simp only at k1 k2 k3
    obtain ⟨e1, e2⟩ := ln_F (f := f) (m := m) (w := w) (h := h) (by omega) (by omega) (by omega) (by omega)
    obtain ⟨a, tv, i1, i2, i3, i4, i5⟩ := fs_ls l (f + 1) (fun y z => hy y (List.mem_cons_of_mem _ z)) (by omega)
    refine ⟨_ :: a, _ ++ tv, ⟨_, _, _, _, rfl, rfl, e1, i1⟩, ?_, by rw [List.length_cons, List.length_cons, i3], fun B P ms n => ?_, fun y hy => ?_⟩
    · show (lnI _ ++ flI a).length ≤ _
      rw [List.length_append, List.length_cons]; omega
    · rw [List.length_cons, show f + (l.length + 1) = f + 1 + l.length by omega]
      exact wkA_both (wk_F (by omega) k1 k2 k3) (i4 B P ms n)
    · rcases List.mem_append.mp hy with q | q
      · simp only [List.mem_cons, List.not_mem_nil, or_false] at q
        rcases q with q | q | q | q <;> rw [q] <;> simp
      · exact i5 y q
theorem os_ls {F G : Nat} (hF : F ≤ 8) (hG : G ≤ 8) : ∀ (l : List (Nat × Nat × Nat × Nat × Nat × Nat × Nat)) (k : Nat), (∀ y ∈ l, oOk F G y) → k + l.length ≤ 24 → ∃ a tv, LNS a (oTs k l) tv ∧ (flI a).length ≤ 21 * l.length ∧ a.length = l.length ∧ (∀ P ms, wkA (nmR 103 0 G, nmR 102 0 F, P, ms, k) tv ∧ wkF (nmR 103 0 G, nmR 102 0 F, P, ms, k) tv = (nmR 103 0 G, nmR 102 0 F, P, ms, k + l.length)) ∧ ((∃ y ∈ l, y.2.2.1 = 3 ∨ y.2.2.1 = 7) ∨ ∀ x ∈ tv, x.1 ≠ 19)
  | [], k, _, _ => ⟨[], [], ⟨rfl, rfl⟩, Nat.le_refl _, rfl, fun P ms => ⟨trivial, rfl⟩, .inr (fun x hx => by cases hx)⟩
  | y :: l, k, h, hl => by
    have hl' : k + (l.length + 1) ≤ 24 := hl
    have h0 := h y List.mem_cons_self
    obtain ⟨x, v0, v1, c, sm, e1, e2, e3, e4, e5⟩ := on_ls (k := k) hF hG h0
    obtain ⟨a, tv, i1, i2, i3, i4, i5⟩ := os_ls hF hG l (k + 1) (fun y hy => h y (List.mem_cons_of_mem _ hy)) (by omega)
    refine ⟨x :: a, _ ++ tv, ⟨_, _, _, _, rfl, rfl, e1, i1⟩, ?_, by rw [List.length_cons, List.length_cons, i3], fun P ms => ?_, ?_⟩
    · show (lnI x ++ flI a).length ≤ _
      rw [List.length_append, List.length_cons]; omega
    · rw [List.length_cons, show k + (l.length + 1) = k + 1 + l.length by omega]
      exact wkA_both (wk_O (by omega) (by omega) (by omega) h0.1 h0.2.1 e3 e4) (i4 P ms)
    · rcases e5 with e5 | e5
      · exact .inl ⟨y, List.mem_cons_self, e5⟩
      · rcases i5 with ⟨z, z1, z2⟩ | i5
        · exact .inl ⟨z, List.mem_cons_of_mem _ z1, z2⟩
        · refine .inr fun z hz => ?_
          have a19 := any_19 e5
          rcases List.mem_append.mp hz with q | q
          · simp only [List.mem_cons, List.mem_append, List.not_mem_nil, or_false] at q
            rcases q with q | q | q | q | q
            · rw [q]; show (54 : Nat) ≠ 19; decide
            · rw [q]; show (60 : Nat) ≠ 19; decide
            · rw [q]; show (61 : Nat) ≠ 19; decide
            · exact a19 z q
            · rw [q]; show c ≠ 19; omega
          · exact i5 z q
theorem ps_ls {F G : Nat} (hF : F ≤ 6) (hG : G ≤ 8) : ∀ (l : List (Option Nat × Nat × Nat × Nat × Nat × Nat)) (p : Nat), (∀ y ∈ l, pOk F G y) → p + l.length ≤ 6 → ∃ a tv, LNS a (pTs F p l) tv ∧ (flI a).length ≤ 31 * l.length ∧ a.length = l.length ∧ (∀ ms n, wkA (nmR 103 0 G, nmR 102 0 F, nmR 112 0 p, ms, n) tv ∧ wkF (nmR 103 0 G, nmR 102 0 F, nmR 112 0 p, ms, n) tv = (nmR 103 0 G, nmR 102 0 F, nmR 112 0 (p + l.length), ms ++ l.map (fun y => mdL y.2.1 F y.2.2.1), n)) ∧ ∀ x ∈ tv, x.1 ≠ 19
  | [], p, _, _ => ⟨[], [], ⟨rfl, rfl⟩, Nat.le_refl _, rfl, fun ms n => ⟨trivial, by rw [List.map_nil, List.append_nil]; rfl⟩, fun x hx => by cases hx⟩
  | y :: l, p, h, hl => by
    have hl' : p + (l.length + 1) ≤ 6 := hl
    have h0 := h y List.mem_cons_self
    obtain ⟨x, tl, e1, e2, e3⟩ := pn_ls hF hG (show p < 6 by omega) h0
    obtain ⟨a, tv, i1, i2, i3, i4, i5⟩ := ps_ls hF hG l (p + 1) (fun y hy => h y (List.mem_cons_of_mem _ hy)) (by omega)
    refine ⟨x :: a, _ ++ tv, ⟨_, _, _, _, rfl, rfl, e1, i1⟩, ?_, by rw [List.length_cons, List.length_cons, i3], fun ms n => ?_, fun z hz => ?_⟩
    · show (lnI x ++ flI a).length ≤ _
      rw [List.length_append, List.length_cons]; omega
    · have k := wkA_both (wk_P (ms := ms) (n := n) (tl := tl) (show F ≤ 8 by omega) hG (show p < 6 by omega) h0.2.1 h0.2.2.1.2 (by
        rcases e3 with e3 | ⟨g, v, sm, q1, q2, q3, -⟩
        · exact .inl e3
        · exact .inr ⟨g, v, sm, q1, q2, q3⟩)) (i4 (ms ++ [mdL y.2.1 F y.2.2.1]) n)
      rw [List.length_cons, show p + (l.length + 1) = p + 1 + l.length by omega, List.map_cons]
      rw [List.append_assoc] at k
      exact k
    · rcases List.mem_append.mp hz with q | q
      · rcases List.mem_cons.mp q with q | q
        · rw [q]; show (53 : Nat) ≠ 19; decide
        · rcases List.mem_append.mp q with q | q
          · exact mbV_19 _ z q
          · rcases e3 with e3 | ⟨g, v, sm, q1, q2, q3, q4⟩
            · rw [e3] at q; cases q
            · rw [q1] at q
              simp only [List.mem_cons, List.mem_append, List.not_mem_nil, or_false] at q
              rcases q with q | q | q
              · rw [q]; show (63 : Nat) ≠ 19; decide
              · exact any_19 q4 z q
              · rw [q]; show (65 : Nat) ≠ 19; decide
      · exact i5 z q
/-- the text of a shore, as lines -/
theorem text_ls {gl : List (Nat × List Nat)} {fl : List (Nat × Nat × Nat)} {ol : List (Nat × Nat × Nat × Nat × Nat × Nat × Nat)} {pl : List (Option Nat × Nat × Nat × Nat × Nat × Nat)} (hg : gl.length ≤ 4) (hf : fl.length ≤ 6) (ho : ol.length ≤ 8) (hp : pl.length < 4) (g1 : ∀ y ∈ gl, gOk y) (f1 : ∀ y ∈ fl, fOk y) (o1 : ∀ y ∈ ol, oOk fl.length gl.length y) (p1 : ∀ y ∈ pl, pOk fl.length gl.length y) :
    ∃ a tv, LNS a (gTs 0 gl ++ fTs 0 fl ++ oTs 0 ol ++ pTs fl.length 0 pl) tv ∧ (flI a).length ≤ 375 ∧ a.length ≤ 21 ∧ wkA ([], [], [], [], 0) tv ∧ wkF ([], [], [], [], 0) tv = (nmR 103 0 gl.length, nmR 102 0 fl.length, nmR 112 0 pl.length, pl.map (fun y => mdL y.2.1 fl.length y.2.2.1), ol.length) ∧ ((∃ y ∈ ol, y.2.2.1 = 3 ∨ y.2.2.1 = 7) ∨ ∀ x ∈ tv, x.1 ≠ 19) := by
  obtain ⟨a1, v1, b1, c1, d1, w1, n1⟩ := gs_ls gl 0 g1 (by omega)
  obtain ⟨a2, v2, b2, c2, d2, w2, n2⟩ := fs_ls fl 0 f1 (by omega)
  obtain ⟨a3, v3, b3, c3, d3, w3, n3⟩ := os_ls (show fl.length ≤ 8 by omega) (show gl.length ≤ 8 by omega) ol 0 o1 (by omega)
  obtain ⟨a4, v4, b4, c4, d4, w4, n4⟩ := ps_ls hf (show gl.length ≤ 8 by omega) pl 0 p1 (by omega)
  have w := wkA_both (wkA_both (wkA_both (w1 [] [] [] 0) (by rw [Nat.zero_add]; exact w2 _ [] [] 0)) (by rw [Nat.zero_add]; exact w3 [] [])) (by rw [Nat.zero_add]; exact w4 [] ol.length)
  rw [Nat.zero_add, List.nil_append] at w
  refine ⟨a1 ++ a2 ++ a3 ++ a4, v1 ++ v2 ++ v3 ++ v4, LNS_app (LNS_app (LNS_app b1 b2) b3) b4, ?_, ?_, w.1, w.2, ?_⟩
  · rw [flI_app, flI_app, flI_app, List.length_append, List.length_append, List.length_append]; omega
  · rw [List.length_append, List.length_append, List.length_append]; omega
  · rcases n3 with n3 | n3
    · exact .inl n3
    · refine .inr fun x hx => ?_
      rcases List.mem_append.mp hx with hx | hx
      · rcases List.mem_append.mp hx with hx | hx
        · rcases List.mem_append.mp hx with hx | hx
          · exact n1 x hx
          · exact n2 x hx
        · exact n3 x hx
      · exact n4 x hx
