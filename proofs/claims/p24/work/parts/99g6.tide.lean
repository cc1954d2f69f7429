/-! ## Pure: a tide, as the law sees it -/
theorem add_c {x y a b : Int32} (h : x + a = y + a + b) : x = y + b := by
  have e : x + a - a = y + b + a - a := by rw [h, Int32.add_assoc, Int32.add_assoc, Int32.add_comm a b]
  rw [Int32.add_sub_cancel, Int32.add_sub_cancel] at e
  exact e
theorem sub_c {y b : Int32} : y + b - y = b := by rw [Int32.add_comm, Int32.add_sub_cancel]
theorem smN_g {c : Nat → Nat} : ∀ n f, f < n → c f ≤ smN c n
  | 0, f, h => absurd h (Nat.not_lt_zero _)
  | n + 1, f, h => by
    show c f ≤ smN c n + c n
    by_cases e : f = n
    · rw [e]; omega
    · have := smN_g n f (by omega) (c := c); omega
theorem smN_x {c d : Nat → Nat} : ∀ n, (∀ i, i < n → c i = d i) → smN c n = smN d n
  | 0, _ => rfl
  | n + 1, h => by
    show smN c n + c n = smN d n + d n
    rw [smN_x n (fun i hi => h i (by omega)), h n (by omega)]
theorem fv_c {A : Nat → Nat → Int32} {f : Nat} : fvA A f 0 = A (34 + 2 * f) 1 ∧ fvA A f 1 = A (34 + 2 * f) 0 ∧ fvA A f 2 = A (34 + 2 * f) 2 ∧ fvA A f 3 = A (34 + 2 * f) 3 ∧ fvA A f 4 = A (34 + 2 * f) 4 ∧ fvA A f 5 = A (34 + 2 * f) 5 ∧ fvA A f 6 = A (34 + 2 * f) 6 ∧ fvA A f 7 = A (34 + 2 * f) 7 ∧ fvA A f 8 = A (34 + 2 * f) 9 ∧ fvA A f 9 = A (34 + 2 * f) 8 := ⟨rfl, rfl, rfl, rfl, rfl, rfl, rfl, rfl, rfl, rfl⟩
theorem gv_c {A : Nat → Nat → Int32} {g : Nat} : gvA A g 0 = sum5 (A (19 + 2 * g)) 5 ∧ gvA A g 6 = A (18 + 2 * g) 0 ∧ gvA A g 7 = A (18 + 2 * g) 1 ∧ gvA A g 8 = A (18 + 2 * g) 2 ∧ ∀ s, 1 ≤ s → s < 6 → gvA A g s = A (19 + 2 * g) s := ⟨rfl, rfl, rfl, rfl, fun s h1 h2 => by unfold gvA; rw [if_neg (by omega), if_pos h2]⟩
theorem pv_c {A : Nat → Nat → Int32} {p : Nat} : pvA A p 0 = (if 0 ≤ A (74 + 2 * p) 0 then 1 else 0) ∧ pvA A p 1 = A (74 + 2 * p) 0 ∧ pvA A p 2 = A (74 + 2 * p) 3 ∧ pvA A p 3 = A (75 + 2 * p) 0 ∧ pvA A p 4 = A (74 + 2 * p) 5 ∧ pvA A p 5 = A (74 + 2 * p) 6 ∧ pvA A p 6 = A (74 + 2 * p) 7 := ⟨rfl, rfl, rfl, rfl, rfl, rfl, rfl⟩
/-- all that a tide did -/
def TDF (B B' : Nat → Nat → Int32) (F G np g0 : Nat) (em : Int32) (s : Nat) (c hd : Nat → Nat) (ms : Nat → List Nat) : Prop := (∀ f, f < F → FCT B B' G c f) ∧ smN c F = s ∧ s ≤ 792 ∧ (∀ g, g < G → GCT B B' (fun g => bnN B' g F) g0 em g) ∧ ∀ p, p < np → PCT B B' s hd ms p
theorem tdf_ok {Z pg : Nat → Nat} {b o o' kb len F G np ng : Nat} {T : Nat → Nat} {M X : gMem} {B B' : Nat → Nat → Int32} {ms : Nat → List Nat} {g0 : Nat} {em : Int32} (S : OB Z pg b o o' kb len F G np ng T B M) (S' : OB Z pg b o o' (kb + 792) len F G np ng T B' X) (hB : ∀ d, d < 86 → (d < 8 ∨ 11 < d) → B' d = tideA pg len np ng F G B d) (I : INV B kb G np ms) (hkb : kb < 2 ^ 30) (hm : ∀ p, p < np → (ms p).length ≤ 8 ∧ ∀ k, k < (ms p).length → (ms p).getD k 0 < F) (hem : ¬ em ≤ 0 → (em = 1 ↔ gvA B' g0 0 = 0)) :
    INV B' (kb + 792) G np ms ∧ B' 0 0 = B 0 0 + 1 ∧ ∃ s c hd, incA pg len np ng F G B 1 = nI s ∧ TDF B B' F G np g0 em s c hd ms := by
  obtain ⟨W, D, V⟩ := ob_W S
  obtain ⟨W', D', V'⟩ := ob_W S'
  obtain ⟨i1, DS, i3⟩ := I
  have hF : F ≤ 8 := W.2.2.2.1
  have hG : G ≤ 8 := W.2.1
  have hp6 : np ≤ 6 := W.2.2.2.2.1.2.1
  have c9 : ∀ f, f < F → B (34 + 2 * f) 9 = 0 ∨ B (34 + 2 * f) 9 = 1 := fun f hf => by
    have := S.1.2.2.2.1 f hf
    rw [← S.2, nz_e (by omega)]; exact this
  obtain ⟨t0, ⟨c, s, s1, s2, s3, s4, s5⟩, tF, tB, tG⟩ := TDE (pg := pg) (len := len) (kb := 0) W D DS (fun g hg => by
    obtain ⟨r, r1, r2⟩ := i1 g hg
    exact ⟨r, by omega, r2⟩)
  have tw := (tide_W (pg := pg) (len := len) W D).2.1
  have told' : ∀ d k, d < 86 → (d < 8 ∨ 11 < d) → told d k → B' d k = B d k := fun d k h1 h2 h3 => by rw [hB d h1 h2]; exact tw d k h3
  have pS : ∀ p, p < np → ∃ h, PCT B B' s (fun _ => h) ms p ∧ (∃ a, a ≤ kb + 792 ∧ B' (74 + 2 * p) 5 = nI a) ∧ (0 ≤ B' (74 + 2 * p) 0 → B' (74 + 2 * p) 5 = 0) := fun p hp => by
    obtain ⟨⟨a, a1, a2⟩, j2, j3, j4, j5⟩ := i3 p hp
    obtain ⟨q1, q2⟩ := s5 p hp
    have e0 : B' (74 + 2 * p) 0 = B (74 + 2 * p) 0 := told' _ _ (by omega) (by omega) (by unfold told; omega)
    have e3 : B' (74 + 2 * p) 3 = B (74 + 2 * p) 3 := told' _ _ (by omega) (by omega) (by unfold told; omega)
    have em0 : B' (75 + 2 * p) 0 = B (75 + 2 * p) 0 := told' _ _ (by omega) (by omega) (by unfold told; omega)
    have r : ∀ k, B' (74 + 2 * p) k = tideA pg len np ng F G B (74 + 2 * p) k := fun k => by rw [hB _ (by omega) (by omega)]
    have k4 : ∀ k, k < 4 → pvA B' p k = pvA B p k := fun k hk => by
      obtain ⟨v0, v1, v2, v3, -⟩ := pv_c (A := B) (p := p)
      obtain ⟨w0, w1, w2, w3, -⟩ := pv_c (A := B') (p := p)
      rcases (show k = 0 ∨ k = 1 ∨ k = 2 ∨ k = 3 by omega) with e | e | e | e <;> subst e
      · rw [v0, w0, e0]
      · rw [v1, w1, e0]
      · rw [v2, w2, e3]
      · rw [v3, w3, em0]
    obtain ⟨v0, -, -, -, v4, v5, v6⟩ := pv_c (A := B) (p := p)
    obtain ⟨w0, -, -, -, w4, w5, w6⟩ := pv_c (A := B') (p := p)
    by_cases z : 0 ≤ B (74 + 2 * p) 0
    · have q := q1 z
      have a0 : a = 0 := by
        have := j2 z
        rw [a2] at this
        exact (nI_eq (b := 0) (by omega) (by omega)).mp this
      refine ⟨0, ⟨Nat.zero_le _, ?_, fun h => absurd h (Nat.lt_irrefl _), ?_, ?_, fun _ => ⟨?_, rfl⟩, k4⟩, ⟨a, by omega, by rw [r, q]; exact a2⟩, fun _ => by rw [r, q]; exact j2 z⟩
      · rw [v5, w5, r, q, Int32.sub_self]; rfl
      · rw [v6, w6, r, q, if_pos rfl, Int32.add_zero]
      · rw [v4, w4, r, q]; exact Int32.lt_irrefl
      · rw [w4, r, q]; exact j2 z
    · obtain ⟨pot, hid, n, n1, n2, n3, n4, n5, n6, n7, n8⟩ := q2 z
      have en : n = (ms p).length := (nI_eq (by omega) (by omega)).mp (n4.symm.trans j3)
      refine ⟨hid, ⟨n2, ?_, fun h => ?_, ?_, ?_, fun h => ?_, k4⟩, ⟨a + pot, by omega, by rw [r, n5, a2, nI_add]⟩, fun h => absurd (by rw [e0] at h; exact h) z⟩
      · rw [v5, w5, r, n6, sub_c]
      · obtain ⟨j, j1', j2'⟩ := n8 h
        refine ⟨j, by omega, ?_⟩
        have fm : (ms p).getD j 0 < F := (hm p hp).2 j (by omega)
        have mj : memA B p j = (ms p).getD j 0 := by
          unfold memA
          obtain ⟨f, f1, f2⟩ := (W.2.2.2.2.2.2.2 p hp).choose_spec.2.2.2 j (by
            have := (W.2.2.2.2.2.2.2 p hp).choose_spec.2.2.1
            have hle := (W.2.2.2.2.2.2.2 p hp).choose_spec.2.1
            have := (nI_eq (by omega) (by omega)).mp (n4.symm.trans this)
            omega)
          have jj := j5 j (by omega)
          rw [f2] at jj
          rw [f2, nI_clamp (by omega)]
          exact (nI_eq (by omega) (by omega)).mp jj
        rw [mj] at j2'
        rcases c9 _ fm with y | y
        · exact absurd y j2'
        · exact y
      · rw [v6, w6, r, n7]
      · rw [v4, w4, r, n5, a2, nI_add]
        intro y
        have := (nI_ltI (by omega) (by omega)).mp y
        omega
      · rw [v0, if_neg z] at h
        exact absurd h (by decide)
  obtain ⟨hd, hhd⟩ := Classical.axiomOfChoice (show ∀ p, ∃ h, p < np → PCT B B' s (fun _ => h) ms p ∧ (∃ a, a ≤ kb + 792 ∧ B' (74 + 2 * p) 5 = nI a) ∧ (0 ≤ B' (74 + 2 * p) 0 → B' (74 + 2 * p) 5 = 0) from fun p => by
    by_cases z : p < np
    · obtain ⟨h, hh⟩ := pS p z
      exact ⟨h, fun _ => hh⟩
    · exact ⟨0, fun y => absurd y z⟩)
  have INV' : INV B' (kb + 792) G np ms := by
    refine ⟨fun g hg => ?_, fun p hp n hn en i j hi hj => ?_, fun p hp => ?_⟩
    · rw [told' _ _ (by omega) (by omega) (by unfold told; omega)]; exact i1 g hg
    · rw [told' (75 + 2 * p) i (by omega) (by omega) (by unfold told; omega), told' (75 + 2 * p) j (by omega) (by omega) (by unfold told; omega)]
      rw [told' _ _ (by omega) (by omega) (by unfold told; omega)] at en
      exact DS p hp n hn en i j hi hj
    · obtain ⟨-, -, j3, j4, j5⟩ := i3 p hp
      obtain ⟨-, h2, h3⟩ := hhd p hp
      exact ⟨h2, h3, by rw [told' _ _ (by omega) (by omega) (by unfold told; omega)]; exact j3, j4, fun k hk => by rw [told' _ _ (by omega) (by omega) (by unfold told; omega)]; exact j5 k hk⟩
  refine ⟨INV', by rw [hB 0 (by omega) (by omega)]; exact t0, s, c, hd, s4, ?_, s3, s1, ?_, fun p hp => (hhd p hp).1⟩
  · intro f hf
    have fr : ∀ k, B' (34 + 2 * f) k = tideA pg len np ng F G B (34 + 2 * f) k := fun k => by rw [hB _ (by omega) (by omega)]
    have ft : ∀ k, (k = 0 ∨ k = 2 ∨ k = 3 ∨ k = 9) → B' (34 + 2 * f) k = B (34 + 2 * f) k := fun k hk => told' _ _ (by omega) (by omega) (by unfold told; omega)
    obtain ⟨u0, u1, u2, u3, u4, u5, u6, u7, u8, u9⟩ := fv_c (A := B) (f := f)
    obtain ⟨w0, w1, w2, w3, w4, w5, w6, w7, w8, w9⟩ := fv_c (A := B') (f := f)
    obtain ⟨-, -, hh, hh1, hh2⟩ := D.2 f hf
    obtain ⟨⟨m, m1, m2, m3⟩, -, -⟩ := D'.2 f hf
    have st : B' (34 + 2 * f) 4 = B (34 + 2 * f) 4 + B' (34 + 2 * f) 5 := by
      rw [fr 4, tide_st W D hf, fr 5]
      congr 1
      unfold tideA
      rw [up2_ne (.inl (by omega)), growA_o G (fun g hg => by omega), stA_o F (fun f hf => .inr (by decide))]
    have tk : B' (34 + 2 * f) 8 = sumN (fun g => B' (35 + 2 * f) g) G := V'.2.2.1 f hf
    have cf : c f ≤ 1000 := by have := smN_g F f hf (c := c); omega
    have wh : ∀ w, (w = 1 ∨ w = 2 ∨ w = 3 ∨ w = 8) → fvA B' f w = fvA B f w := fun w hw => by
      rcases hw with e | e | e | e <;> subst e
      · rw [w1, u1]; exact ft 0 (by omega)
      · rw [w2, u2]; exact ft 2 (by omega)
      · rw [w3, u3]; exact ft 3 (by omega)
      · rw [w8, u8]; exact ft 9 (by omega)
    rcases tF f hf with ⟨x6, x8, x7, x1⟩ | ⟨g, num, te, h, g1, x6, g3, g4, g5, g6, x8, x7, x1⟩
    · refine ⟨0, 0, hh, m, .inl (by rw [w6, fr]; exact x6), ?_, ?_, by omega, by rw [w5, fr]; exact s2 f hf, by rw [w4, u4, w5]; exact st, by rw [u3]; exact hh2, hh1, Nat.zero_le _, fun _ => ⟨rfl, rfl⟩, ?_, by rw [w0]; exact m3, m2, wh, by rw [w9]; exact tk, cf⟩
      · rw [w9, u9, fr, x8, Int32.sub_self]; rfl
      · rw [w7, u7, fr, x7, Int32.sub_self]; rfl
      · rw [w0, u0, fr, x1, show nI 0 = (0 : Int32) from rfl, Int32.add_zero]
    · refine ⟨num, te, h, m, .inr ⟨g, g1, by rw [w6, fr]; exact x6⟩, ?_, ?_, g3, by rw [w5, fr]; exact s2 f hf, by rw [w4, u4, w5]; exact st, by rw [u3]; exact g4, g5, g6, fun y => ?_, ?_, by rw [w0]; exact m3, m2, wh, by rw [w9]; exact tk, cf⟩
      · rw [w9, u9, fr, x8, sub_c]
      · rw [w7, u7, fr, x7, sub_c]
      · rw [w6, fr, x6] at y
        have h2 : ¬ nI g < 0 := nI_pos (by omega)
        rw [y] at h2
        exact absurd (by decide) h2
      · rw [w0, u0, fr, x1]
  · intro g hg
    obtain ⟨bb, r, b1, b2, bz, b3, b4⟩ := tB g hg
    obtain ⟨a0, a, a', d1, d2, d3, d4, d5, d6⟩ := tG g hg
    obtain ⟨r8, r9, r10⟩ := i1 g hg
    obtain ⟨u0, u6, u7, u8, us⟩ := gv_c (A := B) (g := g)
    obtain ⟨w0, w6, w7, w8, ws⟩ := gv_c (A := B') (g := g)
    have e18 : ∀ k, B' (18 + 2 * g) k = tideA pg len np ng F G B (18 + 2 * g) k := fun k => by rw [hB _ (by omega) (by omega)]
    have e19 : B' (19 + 2 * g) = tideA pg len np ng F G B (19 + 2 * g) := hB _ (by omega) (by omega)
    have er : r = r8 := (nI_eq (by omega) (by omega)).mp (b2.symm.trans r10)
    have sa0 : smF a0 ≤ 495 := by
      have h1 := (d1 1 (by omega) (by omega)).2
      have h2 := (d1 2 (by omega) (by omega)).2
      have h3 := (d1 3 (by omega) (by omega)).2
      have h4 := (d1 4 (by omega) (by omega)).2
      have h5 := (d1 5 (by omega) (by omega)).2
      unfold smF; omega
    have ef : gvA B' g 0 = nI (smF a') := by rw [w0, e19]; exact sum5_n d2
    refine ⟨smF a0 - smF a, smF a, smF a', r8, ?_, ?_, ef, ?_, by rw [u6]; exact r10, ?_, ?_, d5, d6, by omega, by omega, by omega, fun s s1 s2 => ?_, fun eg hne => ?_⟩
    · rw [w8, u8, e18]
      have e : nI (smF a0) = nI (smF a) + nI (smF a0 - smF a) := by rw [nI_add]; congr 1; omega
      rw [e, ← Int32.add_assoc] at d4
      rw [add_c d4, sub_c]
    · rw [u0, sum5_n d1, nI_sub (by omega)]
      congr 1; omega
    · rw [w7, e18, b1]
      congr 1
      rw [b4]
      exact smN_x F (fun f hf => by
        show _ = if fvA B' f 6 = nI g then 1 else 0
        rw [(fv_c (A := B') (f := f)).2.2.2.2.2.2.1, hB (34 + 2 * f) (by omega) (by omega)])
    · rw [w6, told' _ _ (by omega) (by omega) (by unfold told; omega)]; exact r10
    · show bnN B' g F ≤ r8
      have : bnN B' g F = bb := by
        rw [b4]
        exact smN_x F (fun f hf => by
          show (if fvA B' f 6 = nI g then 1 else 0) = _
          rw [(fv_c (A := B') (f := f)).2.2.2.2.2.2.1, hB (34 + 2 * f) (by omega) (by omega)])
      omega
    · rw [ws s s1 s2, e19]
      exact ⟨a' s, (d2 s s1 (by omega)).2, (d2 s s1 (by omega)).1⟩
    · subst eg
      rw [← ef]; exact hem hne
