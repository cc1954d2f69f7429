/-! ## Pure: names get what they mean; what stands at the end -/
theorem wds_a {pg : Nat → Nat} {s : Nat} : ∀ n, wds pg 0 (s + n) = wds pg 0 s + wds pg s n
  | 0 => rfl
  | n + 1 => by
    rw [show s + (n + 1) = (s + n) + 1 by omega, wds_1, wds_a n, wds]
    omega
/-- the code, the names before s patched -/
def PTC (ef : Nat → Nat × Nat) (vs : Nat → Nat) (m t n s : Nat) (D X : gMem) : Prop :=
  (mT X = mT D ∧ mL X = mL D ∧ mN X = mN D ∧ mR X = mR D ∧ mJ X = mJ D ∧ ∀ a, a ≠ t + 15 → mI X a = mI D a) ∧ ∀ s', s' < n → mI X (t + 15) (wds (fun s => (ef s).1) 0 s') = nI (opc (ef s').1) ∧ (nmP (ef s').1 → mI X (t + 15) (wds (fun s => (ef s).1) 0 s' + 1) = if s' < s then mI D (m + 6) (ef s').2 else nI (ef s').2) ∧ ((ef s').1 = 41 → mI X (t + 15) (wds (fun s => (ef s).1) 0 s' + 1) = nI (vs (ef s').2))
/-- the code between two places is the class's signs -/
theorem SR_f {ef : Nat → Nat × Nat} {Z vs : Nat → Nat} {o m t n F G k s e : Nat} {E : List (Nat × Nat)} {C D Y : gMem} (hE : E.length = n) (hef : ∀ s (h : s < E.length), ef s = E[s]) (V : RV Z vs o m F G E k C D) (P : PTC ef vs m t n n D Y) (hn : n ≤ 400) (h1 : s ≤ e) (h2 : e ≤ n) (h3 : hgt (fun s => (ef s).1) s (e - s) = 1) (h4 : vld (fun s => (ef s).1) s (e - s)) : SR (fun s => (ef s).1) n (fun d k => mI C (o + d) k) (fun k => mI Y (t + 15) k) F G (nI s) (nI e) (nI (wds (fun s => (ef s).1) 0 s)) (nI (wds (fun s => (ef s).1) 0 e)) := by
  have wa := wds_a (pg := fun s => (ef s).1) (s := s) (e - s)
  rw [show s + (e - s) = e by omega] at wa
  have w2 := wds_2 (pg := fun s => (ef s).1) e
  refine ⟨s, e - s, wds (fun s => (ef s).1) 0 s, rfl, by rw [show s + (e - s) = e by omega], by omega, rfl, by rw [wa], by omega, fun j hj => ?_, h3⟩
  have hs : s + j < n := by omega
  have wj := wds_a (pg := fun s => (ef s).1) (s := s) j
  obtain ⟨p1, p2, p3⟩ := P.2 (s + j) hs
  have hs2 : s + j < E.length := by omega
  obtain ⟨v1, v2, v3, v4⟩ := V.2 (s + j) hs2
  rw [← hef (s + j) hs2] at v1 v2 v3 v4
  have ok := h4 j hj
  rw [← wj]
  refine ⟨p1, ?_⟩
  show (isPO (ef (s + j)).1 ∧ mI Y (t + 15) (wds (fun s => (ef s).1) 0 (s + j) + 1) = mI C (o + 7) (s + j) ∧ _ ∧ _) ∨ _
  have ok : okH (ef (s + j)).1 (hgt (fun s => (ef s).1) s j) := ok
  rcases ok with h | h | h | h
  · refine .inl ⟨h, ?_, fun z => ?_, fun z => ?_⟩
    · by_cases c41 : (ef (s + j)).1 = 41
      · rw [p3 c41, v4 c41]
      · have c : nmP (ef (s + j)).1 := by unfold isPO at h; unfold nmP; omega
        rw [p2 c, if_pos hs]
        unfold nmP at c
        by_cases y : (ef (s + j)).1 = 2 ∨ (ef (s + j)).1 = 18
        · obtain ⟨-, j', -, x1, x2⟩ := v2 y
          rw [x1, x2]
        · obtain ⟨-, j', -, x1, x2⟩ := v3 (by omega)
          rw [x1, x2]
    · obtain ⟨-, j', x0, x1, -⟩ := v2 z
      exact ⟨j', x0, x1⟩
    · obtain ⟨-, j', x0, x1, -⟩ := v3 z
      exact ⟨j', x0, x1⟩
  · exact .inr (.inl h)
  · exact .inr (.inr (.inl h))
  · exact .inr (.inr (.inr h))
/-- what the class has read and what was told to the reference -/
theorem fin_TR {ef : Nat → Nat × Nat} {Z vs : Nat → Nat} {r o m t k nO hh : Nat} {L1 L2 L3 : List Nat} {E : List (Nat × Nat)} {q : Nat × Nat × Nat × Nat} {C D Y : gMem} (ht : m + 7 ≤ t) (hef : ∀ s (h : s < E.length), ef s = E[s]) (R : RA Z vs r o m t L1 L2 L3 E nO k q C D) (hq : LSq q) (T : RT ef vs o t nO L3.length E.length q.2.2.1 q.2.2.2 hh C D) (P : PTC ef vs m t E.length E.length D Y) (hn : E.length ≤ 400) : TR (fun s => (ef s).1) E.length (fun d k => mI C (o + d) k) Y t L2.length L1.length L3.length nO := by
  obtain ⟨h7, ⟨⟨g1, g2, g3, g4, g5⟩, gb, gc⟩, ⟨⟨f1, f2, f3, f4, f5⟩, fb, fc⟩, ⟨⟨o1, o2, o3, o4⟩, ob⟩, ⟨⟨p1, p2, p3, p4, p5⟩, pb, pc⟩, V⟩ := R
  obtain ⟨-, -, t4, t5⟩ := T
  have py := P.1.2.2.2.2.2
  have ng8 := g1.2.1
  have nf8 := f1.2.1
  refine ⟨⟨?_, ?_, ?_, ?_⟩, fun g hg => ?_, fun f hf => ?_, fun i hi => ?_, fun p hp => ?_⟩
  · rw [py t (by omega)]; exact g3
  · rw [py t (by omega)]; exact f3
  · rw [py t (by omega)]; exact o2
  · rw [py t (by omega)]; exact p3
  · rw [py _ (by omega)]; exact (gb g hg).1.symm
  · obtain ⟨b1, b2, b3, b4, -⟩ := fb f hf
    rw [py _ (by omega), py _ (by omega), py _ (by omega)]
    exact ⟨b1.symm, b3.symm, b4.symm⟩
  · obtain ⟨b1, b2⟩ := ob i hi
    have x4 : q.2.2.1 = 4 := by have := o4.mpr (by omega); have := hq.2.1; omega
    rw [py (t + 6) (by omega), py (t + 7) (by omega), py (t + 11) (by omega), py (t + 12) (by omega)]
    refine ⟨(b1 (.inr (by omega))).1.symm, (b2 (.inr (by omega))).1.symm, ?_⟩
    obtain ⟨s, s1, s2, s3, -, s5, -⟩ := t4 i hi
    obtain ⟨e, e1, e2, e3, e4, e5⟩ := s5 (.inr x4)
    have s3 := s3 (.inr (by rw [x4]; decide))
    show (mI C (o + (50 + i)) 2 = mI C (o + (50 + i)) 3 ∧ _) ∨ (mI C (o + (50 + i)) 2 ≠ mI C (o + (50 + i)) 3 ∧ SR _ _ _ _ _ _ (mI C (o + (50 + i)) 2) (mI C (o + (50 + i)) 3) _ _)
    rw [s3, e4, s2, e3]
    rcases e5 with h | ⟨h1, h2⟩
    · subst h
      exact .inl ⟨rfl, Int32.le_refl _⟩
    · have ne : e ≠ s := fun z => by
        rw [z, Nat.sub_self] at h1
        exact absurd h1 (by show ¬ 0 = 1; decide)
      exact .inr ⟨nI_ne (Ne.symm ne) (by omega) (by omega), SR_f rfl hef V P hn e1 e2 h1 h2⟩
  · obtain ⟨b1, b2, b3, ⟨c, c1, c2, c3, c4, c5, c6⟩, b5⟩ := pb p hp
    have y4 : q.2.2.2 ≠ 3 := by have := hq.2.2; omega
    rw [py (t + 8) (by omega), py (t + 9) (by omega), py (t + 10) (by omega), py (t + 13) (by omega), py (t + 14) (by omega)]
    refine ⟨b1.symm, c4.trans c3.symm, fun n k n8 _ hk => (b5 k (by omega)).symm, ?_⟩
    show mI C (o + (74 + 2 * p)) 0 = -1 ∨ ((∃ g, g < L1.length ∧ mI C (o + (74 + 2 * p)) 0 = nI g) ∧ SR _ _ _ _ _ _ (mI C (o + (74 + 2 * p)) 1) (mI C (o + (74 + 2 * p)) 2) _ _)
    obtain ⟨s, s1, s2, s3, a, b, a1, a2, d1, d2, d3⟩ := t5 p hp
    rcases d3 with h | ⟨h, i1, i2, i3⟩
    · exact .inl h
    · rcases b2 with z | ⟨z, z2⟩
      · exact .inl (b1.trans z)
      · obtain ⟨j1, j2, j3, j4⟩ := i3 (z2.imp_right (fun y => by have := hq.2.2; omega))
        refine .inr ⟨?_, ?_⟩
        · obtain ⟨g, w1, w2⟩ := z
          exact ⟨g, w1, b1.trans w2⟩
        · rw [d1, d2, s2, j2, h]
          exact SR_f rfl hef V P hn j1 a2 j3 j4
theorem gSw_n : ∀ c, c < 45 → (gSw c = 7 ∨ gSw c = 15 ∨ gSw c = 16 ∨ gSw c = 17 ∨ gSw c = 18 ∨ gSw c = 19) → c = 2 ∨ c = 18 ∨ c = 4 ∨ c = 16 ∨ c = 17 ∨ c = 19 := by decide +kernel
theorem fin_W {ef : Nat → Nat × Nat} {Z vs : Nat → Nat} {r o m t k nO hh : Nat} {L1 L2 L3 : List Nat} {E : List (Nat × Nat)} {q : Nat × Nat × Nat × Nat} {C D : gMem} (hZ : ∀ a b : Nat, a < 45 → b < 45 → Z a = Z b → a = b) (hef : ∀ s (h : s < E.length), ef s = E[s]) (hc : ∀ s (h : s < E.length), (E[s]).1 < 45) (R : RA Z vs r o m t L1 L2 L3 E nO k q C D) (hq : LSq q) (T : RT ef vs o t nO L3.length E.length q.2.2.1 q.2.2.2 hh C D) (hn : E.length ≤ 400) : PG Z (fun s => (ef s).1) o E.length C (fun d k => mI C (o + d) k) ∧ WS (fun d k => mI C (o + d) k) L2.length L1.length L3.length nO ∧ WD (fun d k => mI C (o + d) k) L2.length L1.length := by
  obtain ⟨h7, ⟨⟨g1, g2, g3, g4, g5⟩, gb, gc⟩, ⟨⟨f1, f2, f3, f4, f5⟩, fb, fc⟩, ⟨⟨o1, o2, o3, o4⟩, ob⟩, ⟨⟨p1, p2, p3, p4, p5⟩, pb, pc⟩, V⟩ := R
  obtain ⟨-, -, t4, t5⟩ := T
  have ng8 := g1.2.1
  have nf8 := f1.2.1
  have x4 : ∀ i, i < nO → 3 ≤ q.2.2.1 ∧ q.2.2.1 = 4 := fun i hi => by have := o4.mpr (by omega); have := hq.2.1; omega
  have fs : ∀ p, p < L3.length → (∃ c, c ≤ 8 ∧ mI C (o + (74 + 2 * p)) 3 = nI c) ∧ (∃ a, a < 2 ^ 30 ∧ mI C (o + (74 + 2 * p)) 1 = nI a) ∧ ∃ b, b < 2 ^ 30 ∧ mI C (o + (74 + 2 * p)) 2 = nI b := fun p hp => by
    obtain ⟨b1, b2, b3, ⟨c, c1, c2, c3, -⟩, -⟩ := pb p hp
    obtain ⟨s, s1, s2, s3, a, b, a1, a2, d1, d2, -⟩ := t5 p hp
    exact ⟨⟨c, c1, c3⟩, ⟨a, by omega, d1⟩, b, by omega, d2⟩
  have gs : ∀ i, i < nO → (∃ f, f < L2.length ∧ mI C (o + (50 + i)) 0 = nI f) ∧ (∃ g, g < L1.length ∧ mI C (o + (50 + i)) 1 = nI g) ∧ (∃ a, a < 2 ^ 30 ∧ mI C (o + (50 + i)) 2 = nI a) ∧ ∃ b, b < 2 ^ 30 ∧ mI C (o + (50 + i)) 3 = nI b := fun i hi => by
    obtain ⟨x3, x4⟩ := x4 i hi
    obtain ⟨b1, b2⟩ := ob i hi
    obtain ⟨e1, f, y1, y2⟩ := b1 (.inr (by omega))
    obtain ⟨e2, g, z1, z2⟩ := b2 (.inr x3)
    obtain ⟨s, s1, s2, s3, -, s5, -⟩ := t4 i hi
    obtain ⟨e, u1, u2, u3, u4, -⟩ := s5 (.inr x4)
    have s3 := s3 (.inr x3)
    clear s5
    exact ⟨⟨f, y1, e1.trans y2⟩, ⟨g, z1, e2.trans z2⟩, ⟨s, by omega, s3⟩, e, by omega, u4⟩
  refine ⟨⟨hZ, fun i hi => ?_, V.1, hn⟩, ⟨g2, ng8, f2, nf8, ⟨p2, p4, fs⟩, ⟨o1, o3, fun i hi => ?_⟩, fun i hi => ⟨(gs i hi).1, (gs i hi).2.1⟩, fun p hp => ?_⟩, fun g hg => ?_, fun f hf => ?_⟩
  · obtain ⟨v1, v2, v3, v4⟩ := V.2 i hi
    have c45 := hc i hi
    rw [← hef i hi] at v1 v2 v3 v4 c45
    refine ⟨c45, v1, fun z => ?_⟩
    have := gSw_n _ c45 z
    by_cases y : (ef i).1 = 2 ∨ (ef i).1 = 18
    · obtain ⟨-, j, j1, j2, -⟩ := v2 y
      exact ⟨j, by omega, j2⟩
    · obtain ⟨-, j, j1, j2, -⟩ := v3 (by omega)
      exact ⟨j, by omega, j2⟩
  · obtain ⟨⟨f, y1, y2⟩, ⟨g, z1, z2⟩, h3, h4⟩ := gs i hi
    exact ⟨⟨f, by omega, y2⟩, ⟨g, by omega, z2⟩, h3, h4⟩
  · obtain ⟨b1, b2, b3, ⟨c, c1, c2, c3, c4, c5, c6⟩, b5⟩ := pb p hp
    refine ⟨c, by have := hq.2.2; omega, c1, c3, fun i hi => ?_⟩
    obtain ⟨f, y1, y2⟩ := c5 i hi
    exact ⟨f, y1, (b5 i (by omega)).trans y2⟩
  · intro s s1 s2
    obtain ⟨-, -, -, b4⟩ := gb g hg
    obtain ⟨e1, n, n1, n2⟩ := b4 (s - 1) (by omega)
    rw [show s - 1 + 1 = s by omega] at e1
    exact ⟨n, n1, e1.trans n2⟩
  · obtain ⟨b1, b2, b3, b4, b5, b6, ⟨n, n1, n2, n3⟩, ⟨w, w1, w2⟩, h, h1, h2⟩ := fb f hf
    exact ⟨⟨n, by have := hq.1; omega, by omega, b2.trans n3⟩, ⟨w, w1, b3.trans w2⟩, h, h1, b4.trans h2⟩

