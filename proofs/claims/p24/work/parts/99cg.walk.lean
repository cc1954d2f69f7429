/-! ## Pure: what a text tells, walked through -/
def lkV (v : Nat) : List Nat → Nat → Option Nat
  | [], _ => none
  | x :: r, c => if x = v then some c else lkV v r (c + 1)
theorem lkV_map {vs : Nat → Nat} {v : Nat} : ∀ (L : List Nat) (c : Nat), lkL vs v L c = lkV v (L.map vs) c
  | [], c => rfl
  | x :: r, c => by
    show (if vs x = v then some c else lkL vs v r (c + 1)) = if vs x = v then some c else lkV v (r.map vs) (c + 1)
    rw [lkV_map r (c + 1)]
def apL : List (List Nat) → Nat → List (List Nat)
  | [], _ => []
  | [m], j => [m ++ [j]]
  | m :: x :: r, j => m :: apL (x :: r) j
theorem apL_e : ∀ (ms : List (List Nat)) (m : List Nat) (j : Nat), apL (ms ++ [m]) j = ms ++ [m ++ [j]]
  | [], m, j => rfl
  | [a], m, j => rfl
  | a :: b :: r, m, j => by
    show a :: apL ((b :: r) ++ [m]) j = _
    rw [apL_e (b :: r) m j]; rfl
def wkS (s : List Nat × List Nat × List Nat × List (List Nat) × Nat) (x : Nat × Nat) : List Nat × List Nat × List Nat × List (List Nat) × Nat :=
  (if x.1 = 51 then s.1 ++ [x.2] else s.1, if x.1 = 52 then s.2.1 ++ [x.2] else s.2.1, if x.1 = 53 then s.2.2.1 ++ [x.2] else s.2.2.1,
   if x.1 = 53 then s.2.2.2.1 ++ [[]] else if x.1 = 62 then apL s.2.2.2.1 ((lkV x.2 s.2.1 0).getD 0) else s.2.2.2.1, if x.1 = 54 then s.2.2.2.2 + 1 else s.2.2.2.2)
def wkC (s : List Nat × List Nat × List Nat × List (List Nat) × Nat) (x : Nat × Nat) : Prop :=
  (x.1 = 51 → lkV x.2 s.1 0 = none ∧ s.1.length < 8) ∧ (x.1 = 52 → lkV x.2 s.2.1 0 = none ∧ s.2.1.length < 8) ∧ (x.1 = 53 → lkV x.2 s.2.2.1 0 = none ∧ s.2.2.1.length < 6) ∧ (x.1 = 54 → s.2.2.2.2 < 24) ∧
  (x.1 = 55 → 1 ≤ x.2 ∧ x.2 ≤ 8) ∧ (x.1 = 57 → 1 ≤ x.2 ∧ x.2 ≤ 5) ∧ (x.1 = 58 → 1 ≤ x.2 ∧ x.2 ≤ 99) ∧ (x.1 = 59 → 1 ≤ x.2 ∧ x.2 ≤ 40) ∧ (1000 ≤ x.1 → x.1 ≤ 1005 ∧ x.2 ≤ 99) ∧
  (x.1 = 60 ∨ x.1 = 62 ∨ x.1 = 16 ∨ x.1 = 17 ∨ x.1 = 4 ∨ x.1 = 19 → ∃ j, lkV x.2 s.2.1 0 = some j ∧ (x.1 = 62 → ∃ ms m, s.2.2.2.1 = ms ++ [m] ∧ j ∉ m ∧ m.length < 8)) ∧
  (x.1 = 61 ∨ x.1 = 63 ∨ x.1 = 2 ∨ x.1 = 18 → ∃ j, lkV x.2 s.1 0 = some j)
def wkA : List Nat × List Nat × List Nat × List (List Nat) × Nat → List (Nat × Nat) → Prop
  | _, [] => True
  | s, x :: r => wkC s x ∧ wkA (wkS s x) r
def wkF : List Nat × List Nat × List Nat × List (List Nat) × Nat → List (Nat × Nat) → List Nat × List Nat × List Nat × List (List Nat) × Nat
  | s, [] => s
  | s, x :: r => wkF (wkS s x) r
theorem wkF_app : ∀ (a b : List (Nat × Nat)) (s : List Nat × List Nat × List Nat × List (List Nat) × Nat), wkF s (a ++ b) = wkF (wkF s a) b
  | [], b, s => rfl
  | x :: r, b, s => wkF_app r b (wkS s x)
theorem wkA_app : ∀ (a b : List (Nat × Nat)) (s : List Nat × List Nat × List Nat × List (List Nat) × Nat), wkA s (a ++ b) ↔ wkA s a ∧ wkA (wkF s a) b
  | [], b, s => ⟨fun h => ⟨trivial, h⟩, fun h => h.2⟩
  | x :: r, b, s => by
    show wkC s x ∧ wkA (wkS s x) (r ++ b) ↔ (wkC s x ∧ wkA (wkS s x) r) ∧ wkA (wkF (wkS s x) r) b
    rw [wkA_app r b (wkS s x), and_assoc]
theorem wkA_both {s s' s'' : List Nat × List Nat × List Nat × List (List Nat) × Nat} {a b : List (Nat × Nat)} (h : wkA s a ∧ wkF s a = s') (k : wkA s' b ∧ wkF s' b = s'') : wkA s (a ++ b) ∧ wkF s (a ++ b) = s'' :=
  ⟨(wkA_app a b s).mpr ⟨h.1, by rw [h.2]; exact k.1⟩, by rw [wkF_app, h.2]; exact k.2⟩
theorem wkS_o {s : List Nat × List Nat × List Nat × List (List Nat) × Nat} {x : Nat × Nat} (h : x.1 ≠ 51 ∧ x.1 ≠ 52 ∧ x.1 ≠ 53 ∧ x.1 ≠ 54 ∧ x.1 ≠ 62) : wkS s x = s := by
  unfold wkS
  rw [if_neg h.1, if_neg h.2.1, if_neg h.2.2.1, if_neg h.2.2.1, if_neg h.2.2.2.2, if_neg h.2.2.2.1]
theorem wkS_c {s : List Nat × List Nat × List Nat × List (List Nat) × Nat} {c v : Nat} (h : c ≠ 51 ∧ c ≠ 52 ∧ c ≠ 53 ∧ c ≠ 54 ∧ c ≠ 62) : wkS s (c, v) = s := wkS_o h
/-! names in a row -/
def nmR (c : Nat) : Nat → Nat → List Nat
  | _, 0 => []
  | b, n + 1 => nmV c b :: nmR c (b + 1) n
theorem nmR_s {c : Nat} : ∀ (n b : Nat), nmR c b n ++ [nmV c (b + n)] = nmR c b (n + 1)
  | 0, b => rfl
  | n + 1, b => by
    show nmV c b :: (nmR c (b + 1) n ++ [nmV c (b + (n + 1))]) = nmV c b :: nmR c (b + 1) (n + 1)
    rw [← nmR_s n (b + 1), show b + (n + 1) = b + 1 + n by omega]
theorem nmR_l {c : Nat} : ∀ (n b : Nat), (nmR c b n).length = n
  | 0, b => rfl
  | n + 1, b => by show (nmR c (b + 1) n).length + 1 = n + 1; rw [nmR_l n (b + 1)]
theorem nmV_e {c n : Nat} (h : n < 1000) : nmV c n = (c - 86) * 37 + (n + 1) := by
  unfold nmV vlI
  rw [if_pos rfl, show (c * 1000 + n) / 1000 = c by omega, show (c * 1000 + n) % 1000 = n by omega]
theorem nmR_lk {c j : Nat} (hj : j < 500) : ∀ (n b : Nat), b + n < 500 → lkV (nmV c j) (nmR c b n) b = if b ≤ j ∧ j < b + n then some j else none
  | 0, b, _ => by rw [if_neg (by omega)]; rfl
  | n + 1, b, h => by
    show (if nmV c b = nmV c j then some b else lkV (nmV c j) (nmR c (b + 1) n) (b + 1)) = _
    rw [nmR_lk hj n (b + 1) (by omega), nmV_e (by omega), nmV_e (by omega)]
    by_cases e : b = j
    · subst e
      rw [if_pos rfl, if_pos (by omega)]
    · rw [if_neg (by omega)]
      by_cases z : b ≤ j ∧ j < b + (n + 1)
      · rw [if_pos z, if_pos (by omega)]
      · rw [if_neg z, if_neg (by omega)]
theorem nm_in {c j n : Nat} (h : j < n) (hn : n < 500) : lkV (nmV c j) (nmR c 0 n) 0 = some j := by
  rw [nmR_lk (by omega) n 0 (by omega), if_pos (by omega)]
theorem nm_no {c n : Nat} (hn : n < 500) : lkV (nmV c n) (nmR c 0 n) 0 = none := by
  rw [nmR_lk (by omega) n 0 (by omega), if_neg (by omega)]
/-- the condition at one event -/
theorem wkC_51 {s : List Nat × List Nat × List Nat × List (List Nat) × Nat} {v : Nat} (h : lkV v s.1 0 = none ∧ s.1.length < 8) : wkC s (51, v) := by
  refine ⟨fun _ => h, ?_, ?_, ?_, ?_, ?_, ?_, ?_, ?_, ?_, ?_⟩ <;> intro z <;> simp at z
theorem wkC_52 {s : List Nat × List Nat × List Nat × List (List Nat) × Nat} {v : Nat} (h : lkV v s.2.1 0 = none ∧ s.2.1.length < 8) : wkC s (52, v) := by
  refine ⟨?_, fun _ => h, ?_, ?_, ?_, ?_, ?_, ?_, ?_, ?_, ?_⟩ <;> intro z <;> simp at z
theorem wkC_53 {s : List Nat × List Nat × List Nat × List (List Nat) × Nat} {v : Nat} (h : lkV v s.2.2.1 0 = none ∧ s.2.2.1.length < 6) : wkC s (53, v) := by
  refine ⟨?_, ?_, fun _ => h, ?_, ?_, ?_, ?_, ?_, ?_, ?_, ?_⟩ <;> intro z <;> simp at z
theorem wkC_54 {s : List Nat × List Nat × List Nat × List (List Nat) × Nat} {v : Nat} (h : s.2.2.2.2 < 24) : wkC s (54, v) := by
  refine ⟨?_, ?_, ?_, fun _ => h, ?_, ?_, ?_, ?_, ?_, ?_, ?_⟩ <;> intro z <;> simp at z
theorem wkC_nb {s : List Nat × List Nat × List Nat × List (List Nat) × Nat} {c v : Nat} (h : (c = 55 ∧ 1 ≤ v ∧ v ≤ 8) ∨ (c = 57 ∧ 1 ≤ v ∧ v ≤ 5) ∨ (c = 58 ∧ 1 ≤ v ∧ v ≤ 99) ∨ (c = 59 ∧ 1 ≤ v ∧ v ≤ 40) ∨ (1001 ≤ c ∧ c ≤ 1005 ∧ v ≤ 99)) : wkC s (c, v) := by
  refine ⟨?_, ?_, ?_, ?_, ?_, ?_, ?_, ?_, ?_, ?_, ?_⟩ <;> intro z <;> simp only at z ⊢ <;> first | omega | (exfalso; omega)
theorem wkC_fn {s : List Nat × List Nat × List Nat × List (List Nat) × Nat} {c v j : Nat} (hc : c = 60 ∨ c = 16 ∨ c = 17 ∨ c = 4 ∨ c = 19) (h : lkV v s.2.1 0 = some j) : wkC s (c, v) := by
  refine ⟨?_, ?_, ?_, ?_, ?_, ?_, ?_, ?_, ?_, fun _ => ⟨j, h, fun z => absurd (show c = 62 from z) (by omega)⟩, ?_⟩
  all_goals (intro z; simp only at z; exfalso; omega)
theorem wkC_gn {s : List Nat × List Nat × List Nat × List (List Nat) × Nat} {c v j : Nat} (hc : c = 61 ∨ c = 63 ∨ c = 2 ∨ c = 18) (h : lkV v s.1 0 = some j) : wkC s (c, v) := by
  refine ⟨?_, ?_, ?_, ?_, ?_, ?_, ?_, ?_, ?_, ?_, fun _ => ⟨j, h⟩⟩
  all_goals (intro z; simp only at z; exfalso; omega)
theorem wkC_62 {s : List Nat × List Nat × List Nat × List (List Nat) × Nat} {v j : Nat} (h : lkV v s.2.1 0 = some j) (h2 : ∃ ms m, s.2.2.2.1 = ms ++ [m] ∧ j ∉ m ∧ m.length < 8) : wkC s (62, v) := by
  refine ⟨?_, ?_, ?_, ?_, ?_, ?_, ?_, ?_, ?_, fun _ => ⟨j, h, fun z => h2⟩, ?_⟩ <;> intro z <;> simp at z
theorem wkC_o {s : List Nat × List Nat × List Nat × List (List Nat) × Nat} {c v : Nat} (h : (c < 45 ∨ 64 ≤ c) ∧ c < 1000 ∧ c ≠ 16 ∧ c ≠ 17 ∧ c ≠ 4 ∧ c ≠ 19 ∧ c ≠ 2 ∧ c ≠ 18) : wkC s (c, v) := by
  refine ⟨?_, ?_, ?_, ?_, ?_, ?_, ?_, ?_, ?_, ?_, ?_⟩
  all_goals (intro z; simp only at z; exfalso; omega)
/-- signs of sums and tests -/
def smE (F G : Nat) (x : Nat × Nat) : Prop := x.1 < 45 ∧ (x.1 = 16 ∨ x.1 = 17 ∨ x.1 = 4 ∨ x.1 = 19 → ∃ j, j < F ∧ x.2 = nmV 102 j) ∧ (x.1 = 2 ∨ x.1 = 18 → ∃ j, j < G ∧ x.2 = nmV 103 j)
theorem wk_sm {F G : Nat} {P : List Nat} {ms : List (List Nat)} {n : Nat} (hF : F < 500) (hG : G < 500) : ∀ (l : List (Nat × Nat)), (∀ x ∈ l, smE F G x) → wkA (nmR 103 0 G, nmR 102 0 F, P, ms, n) l ∧ wkF (nmR 103 0 G, nmR 102 0 F, P, ms, n) l = (nmR 103 0 G, nmR 102 0 F, P, ms, n)
  | [], _ => ⟨trivial, rfl⟩
  | x :: r, h => by
    obtain ⟨h1, h2, h3⟩ := h x List.mem_cons_self
    obtain ⟨c, v⟩ := x
    simp only at h1 h2 h3
    obtain ⟨i1, i2⟩ := wk_sm (P := P) (ms := ms) (n := n) hF hG r (fun y hy => h y (List.mem_cons_of_mem _ hy))
    have e : wkS (nmR 103 0 G, nmR 102 0 F, P, ms, n) (c, v) = (nmR 103 0 G, nmR 102 0 F, P, ms, n) := wkS_o (by simp only; omega)
    refine ⟨⟨?_, by rw [e]; exact i1⟩, by rw [wkF, e]; exact i2⟩
    by_cases a : c = 16 ∨ c = 17 ∨ c = 4 ∨ c = 19
    · obtain ⟨j, j1, rfl⟩ := h2 a
      clear h2 h3
      exact wkC_fn (by omega) (nm_in j1 hF)
    · by_cases b : c = 2 ∨ c = 18
      · obtain ⟨j, j1, rfl⟩ := h3 b
        clear h2 h3
        exact wkC_gn (by omega) (nm_in j1 hG)
      · clear h2 h3
        exact wkC_o (by omega)
/-- the sizes of a ground -/
def szV : Nat → List Nat → List (Nat × Nat)
  | _, [] => []
  | k, z :: r => (1000 + k, z) :: szV (k + 1) r
theorem wk_sz {s : List Nat × List Nat × List Nat × List (List Nat) × Nat} : ∀ (zs : List Nat) (k : Nat), 1 ≤ k → k + zs.length ≤ 6 → (∀ z ∈ zs, z < 100) → wkA s (szV k zs) ∧ wkF s (szV k zs) = s
  | [], k, _, _, _ => ⟨trivial, rfl⟩
  | z :: r, k, h1, h2, h3 => by
    have hz : z < 100 := h3 z List.mem_cons_self
    have h2' : k + (r.length + 1) ≤ 6 := h2
    obtain ⟨i1, i2⟩ := wk_sz (s := s) r (k + 1) (by omega) (by omega) (fun y hy => h3 y (List.mem_cons_of_mem _ hy))
    have e : wkS s (1000 + k, z) = s := wkS_o (by simp only; omega)
    exact ⟨⟨wkC_nb (by omega), by rw [e]; exact i1⟩, by rw [szV, wkF, e]; exact i2⟩
theorem wk_G {B P : List Nat} {ms : List (List Nat)} {n g r : Nat} {zs : List Nat} (hg : g < 8) (hr : 1 ≤ r ∧ r ≤ 8) (hz : zs.length ≤ 5) (h3 : ∀ z ∈ zs, z < 100) : wkA (nmR 103 0 g, B, P, ms, n) ((51, nmV 103 g) :: (55, r) :: szV 1 zs) ∧ wkF (nmR 103 0 g, B, P, ms, n) ((51, nmV 103 g) :: (55, r) :: szV 1 zs) = (nmR 103 0 (g + 1), B, P, ms, n) := by
  have e : wkS (nmR 103 0 g, B, P, ms, n) (51, nmV 103 g) = (nmR 103 0 (g + 1), B, P, ms, n) := by
    rw [← nmR_s g 0, Nat.zero_add]; rfl
  have e2 : wkS (nmR 103 0 (g + 1), B, P, ms, n) (55, r) = (nmR 103 0 (g + 1), B, P, ms, n) := wkS_c (by decide)
  obtain ⟨i1, i2⟩ := wk_sz (s := (nmR 103 0 (g + 1), B, P, ms, n)) zs 1 (Nat.le_refl _) (by omega) h3
  refine ⟨⟨wkC_51 ⟨nm_no (by omega), by show (nmR 103 0 g).length < 8; rw [nmR_l]; exact hg⟩, ?_⟩, ?_⟩
  · rw [e]
    exact ⟨wkC_nb (.inl ⟨rfl, hr⟩), by rw [e2]; exact i1⟩
  · rw [wkF, e, wkF, e2]; exact i2
theorem wk_F {A P : List Nat} {ms : List (List Nat)} {n f m w h : Nat} (hf : f < 8) (h1 : 1 ≤ m ∧ m ≤ 5) (h2 : 1 ≤ w ∧ w ≤ 99) (h3 : 1 ≤ h ∧ h ≤ 40) : wkA (A, nmR 102 0 f, P, ms, n) [(52, nmV 102 f), (57, m), (58, w), (59, h)] ∧ wkF (A, nmR 102 0 f, P, ms, n) [(52, nmV 102 f), (57, m), (58, w), (59, h)] = (A, nmR 102 0 (f + 1), P, ms, n) := by
  have e : wkS (A, nmR 102 0 f, P, ms, n) (52, nmV 102 f) = (A, nmR 102 0 (f + 1), P, ms, n) := by
    rw [← nmR_s f 0, Nat.zero_add]; rfl
  have e2 : wkS (A, nmR 102 0 (f + 1), P, ms, n) (57, m) = (A, nmR 102 0 (f + 1), P, ms, n) := wkS_c (by decide)
  have e3 : wkS (A, nmR 102 0 (f + 1), P, ms, n) (58, w) = (A, nmR 102 0 (f + 1), P, ms, n) := wkS_c (by decide)
  have e4 : wkS (A, nmR 102 0 (f + 1), P, ms, n) (59, h) = (A, nmR 102 0 (f + 1), P, ms, n) := wkS_c (by decide)
  refine ⟨⟨wkC_52 ⟨nm_no (by omega), by show (nmR 102 0 f).length < 8; rw [nmR_l]; exact hf⟩, ?_⟩, ?_⟩
  · rw [e]
    refine ⟨wkC_nb (.inr (.inl ⟨rfl, h1⟩)), ?_⟩
    rw [e2]
    refine ⟨wkC_nb (.inr (.inr (.inl ⟨rfl, h2⟩))), ?_⟩
    rw [e3]
    exact ⟨wkC_nb (.inr (.inr (.inr (.inl ⟨rfl, h3⟩)))), trivial⟩
  · rw [wkF, e, wkF, e2, wkF, e3, wkF, e4, wkF]
theorem wk_O {F G : Nat} {P : List Nat} {ms : List (List Nat)} {n f g v0 v1 c : Nat} {sm : List (Nat × Nat)} (hF : F < 500) (hG : G < 500) (hn : n < 24) (hf : f < F) (hg : g < G) (hc : c = 64 ∨ c = 66) (hs : ∀ x ∈ sm, smE F G x) : wkA (nmR 103 0 G, nmR 102 0 F, P, ms, n) ((54, v0) :: (60, nmV 102 f) :: (61, nmV 103 g) :: (sm ++ [(c, v1)])) ∧ wkF (nmR 103 0 G, nmR 102 0 F, P, ms, n) ((54, v0) :: (60, nmV 102 f) :: (61, nmV 103 g) :: (sm ++ [(c, v1)])) = (nmR 103 0 G, nmR 102 0 F, P, ms, n + 1) := by
  have e2 : wkS (nmR 103 0 G, nmR 102 0 F, P, ms, n + 1) (60, nmV 102 f) = (nmR 103 0 G, nmR 102 0 F, P, ms, n + 1) := wkS_c (by decide)
  have e3 : wkS (nmR 103 0 G, nmR 102 0 F, P, ms, n + 1) (61, nmV 103 g) = (nmR 103 0 G, nmR 102 0 F, P, ms, n + 1) := wkS_c (by decide)
  have e4 : wkS (nmR 103 0 G, nmR 102 0 F, P, ms, n + 1) (c, v1) = (nmR 103 0 G, nmR 102 0 F, P, ms, n + 1) := wkS_o (by simp only; omega)
  have k := wkA_both (wk_sm (P := P) (ms := ms) (n := n + 1) hF hG sm hs) (b := [(c, v1)]) (s'' := (nmR 103 0 G, nmR 102 0 F, P, ms, n + 1)) ⟨⟨wkC_o (by omega), trivial⟩, by rw [wkF, e4]; rfl⟩
  refine ⟨⟨wkC_54 hn, ?_⟩, ?_⟩
  · show wkC (nmR 103 0 G, nmR 102 0 F, P, ms, n + 1) _ ∧ _
    refine ⟨wkC_fn (.inl rfl) (nm_in hf hF), ?_⟩
    show wkA (wkS (nmR 103 0 G, nmR 102 0 F, P, ms, n + 1) (60, nmV 102 f)) _
    rw [e2]
    refine ⟨wkC_gn (.inl rfl) (nm_in hg hG), ?_⟩
    rw [e3]; exact k.1
  · show wkF (wkS (wkS (nmR 103 0 G, nmR 102 0 F, P, ms, n + 1) (60, nmV 102 f)) (61, nmV 103 g)) _ = _
    rw [e2, e3]; exact k.2
/-- the members of a pact -/
def mdL (b F : Nat) : Nat → List Nat
  | 0 => []
  | k + 1 => mdL b F k ++ [(b + k) % F]
theorem mdL_m {b F j : Nat} : ∀ k, j ∈ mdL b F k → ∃ i, i < k ∧ j = (b + i) % F
  | 0, h => by cases h
  | k + 1, h => by
    rcases List.mem_append.mp h with h | h
    · obtain ⟨i, i1, i2⟩ := mdL_m k h
      exact ⟨i, by omega, i2⟩
    · exact ⟨k, by omega, List.mem_singleton.mp h⟩
theorem mdL_l {b F : Nat} : ∀ k, (mdL b F k).length = k
  | 0 => rfl
  | k + 1 => by rw [mdL, List.length_append, mdL_l k]; rfl
theorem mdL_g {b F : Nat} : ∀ k i, i < k → (mdL b F k).getD i 0 = (b + i) % F
  | 0, i, h => absurd h (Nat.not_lt_zero _)
  | k + 1, i, h => by
    rw [mdL, List.getD_eq_getElem?_getD]
    by_cases e : i < k
    · rw [List.getElem?_append_left (by rw [mdL_l]; exact e), ← List.getD_eq_getElem?_getD]
      exact mdL_g k i e
    · rw [List.getElem?_append_right (by rw [mdL_l]; omega), mdL_l, show i - k = 0 by omega, show i = k by omega]
      rfl
theorem md_two {b F i : Nat} (hb : b < F) (hi : i < F) : (b + i) % F = if b + i < F then b + i else b + i - F := by
  by_cases h : b + i < F
  · rw [if_pos h, Nat.mod_eq_of_lt h]
  · rw [if_neg h, Nat.mod_eq_sub_mod (by omega), Nat.mod_eq_of_lt (by omega)]
theorem mdL_n {b F k : Nat} (hb : b < F) (hk : k < F) : (b + k) % F ∉ mdL b F k := fun h => by
  obtain ⟨i, i1, i2⟩ := mdL_m k h
  rw [md_two hb hk, md_two hb (by omega)] at i2
  split at i2 <;> split at i2 <;> omega
theorem wk_M {A P : List Nat} {ms : List (List Nat)} {n F b : Nat} (hF : F ≤ 8) (hb : b < F) : ∀ k, k ≤ F → wkA (A, nmR 102 0 F, P, ms ++ [[]], n) (mbV b F k) ∧ wkF (A, nmR 102 0 F, P, ms ++ [[]], n) (mbV b F k) = (A, nmR 102 0 F, P, ms ++ [mdL b F k], n)
  | 0, _ => ⟨trivial, rfl⟩
  | k + 1, h => by
    have i := wk_M (A := A) (P := P) (ms := ms) (n := n) hF hb k (by omega)
    have hl : lkV (nmV 102 ((b + k) % F)) (nmR 102 0 F) 0 = some ((b + k) % F) := nm_in (Nat.mod_lt _ (by omega)) (by omega)
    refine wkA_both i ⟨⟨wkC_62 hl ⟨ms, mdL b F k, rfl, mdL_n hb (by omega), by rw [mdL_l]; omega⟩, trivial⟩, ?_⟩
    show (A, nmR 102 0 F, P, apL (ms ++ [mdL b F k]) ((lkV (nmV 102 ((b + k) % F)) (nmR 102 0 F) 0).getD 0), n) = _
    rw [hl, apL_e]; rfl
theorem wk_P {F G : Nat} {ms : List (List Nat)} {n p b k : Nat} {tl : List (Nat × Nat)} (hF : F ≤ 8) (hG : G ≤ 8) (hp : p < 6) (hb : b < F) (hk : k ≤ F) (ht : tl = [] ∨ ∃ g v sm, tl = (63, nmV 103 g) :: (sm ++ [(65, v)]) ∧ g < G ∧ ∀ x ∈ sm, smE F G x) : wkA (nmR 103 0 G, nmR 102 0 F, nmR 112 0 p, ms, n) ((53, nmV 112 p) :: (mbV b F k ++ tl)) ∧ wkF (nmR 103 0 G, nmR 102 0 F, nmR 112 0 p, ms, n) ((53, nmV 112 p) :: (mbV b F k ++ tl)) = (nmR 103 0 G, nmR 102 0 F, nmR 112 0 (p + 1), ms ++ [mdL b F k], n) := by
  have e : wkS (nmR 103 0 G, nmR 102 0 F, nmR 112 0 p, ms, n) (53, nmV 112 p) = (nmR 103 0 G, nmR 102 0 F, nmR 112 0 (p + 1), ms ++ [[]], n) := by
    rw [← nmR_s p 0, Nat.zero_add]; rfl
  have kt : wkA (nmR 103 0 G, nmR 102 0 F, nmR 112 0 (p + 1), ms ++ [mdL b F k], n) tl ∧ wkF (nmR 103 0 G, nmR 102 0 F, nmR 112 0 (p + 1), ms ++ [mdL b F k], n) tl = (nmR 103 0 G, nmR 102 0 F, nmR 112 0 (p + 1), ms ++ [mdL b F k], n) := by
    rcases ht with rfl | ⟨g, v, sm, rfl, hg, hs⟩
    · exact ⟨trivial, rfl⟩
    · have e3 : wkS (nmR 103 0 G, nmR 102 0 F, nmR 112 0 (p + 1), ms ++ [mdL b F k], n) (63, nmV 103 g) = (nmR 103 0 G, nmR 102 0 F, nmR 112 0 (p + 1), ms ++ [mdL b F k], n) := wkS_c (by decide)
      have e4 : wkS (nmR 103 0 G, nmR 102 0 F, nmR 112 0 (p + 1), ms ++ [mdL b F k], n) (65, v) = (nmR 103 0 G, nmR 102 0 F, nmR 112 0 (p + 1), ms ++ [mdL b F k], n) := wkS_c (by decide)
      have q := wkA_both (wk_sm (P := nmR 112 0 (p + 1)) (ms := ms ++ [mdL b F k]) (n := n) (show F < 500 by omega) (show G < 500 by omega) sm hs) (b := [(65, v)]) (s'' := (nmR 103 0 G, nmR 102 0 F, nmR 112 0 (p + 1), ms ++ [mdL b F k], n)) ⟨⟨wkC_o (by omega), trivial⟩, by rw [wkF, e4]; rfl⟩
      exact ⟨⟨wkC_gn (.inr (.inl rfl)) (nm_in hg (by omega)), by rw [e3]; exact q.1⟩, by rw [wkF, e3]; exact q.2⟩
  have km := wkA_both (wk_M (A := nmR 103 0 G) (P := nmR 112 0 (p + 1)) (ms := ms) (n := n) hF hb k hk) kt
  exact ⟨⟨wkC_53 ⟨nm_no (by omega), by show (nmR 112 0 p).length < 6; rw [nmR_l]; exact hp⟩, by rw [e]; exact km.1⟩, by rw [wkF, e]; exact km.2⟩
