/-! ## Pure: words and numbers of a text: what they say to both -/
/-- what a token says: a name, a number -/
def vsT (T : Nat → Nat) (n i : Nat) : Nat := if tok T n i = 40 ∨ tok T n i = 41 then (tkJ T n (pos T n i)).getD 0 else 0
def TXT (m n K : Nat) (T : Nat → Nat) (X : gMem) : Prop :=
  (mT X m = 13 ∧ mR X m 1 = some (m + 1) ∧ mR X m 5 = some (m + 3) ∧ mR X m 6 = some (m + 4) ∧ mT X (m + 1) = 20 ∧ mT X (m + 3) = 20 ∧ mT X (m + 4) = 20 ∧ mL X (m + 1) = 2000 ∧ mL X (m + 3) = 401 ∧ mL X (m + 4) = 401) ∧ K ≤ 400 ∧ n ≤ 2000 ∧ (∀ q, q < n → mI X (m + 1) q = nI (T q) ∧ T q < 256) ∧ ∀ i, i ≤ K → mI X (m + 3) i = nI (pos T n i) ∧ (tok T n i < 42 → mI X (m + 4) i = nI (tkE T n (pos T n i) - pos T n i))
theorem sLn_0 : sLn 40 = 0 ∧ sLn 41 = 0 := by decide +kernel
theorem symG_n {T : Nat → Nat} {n a : Nat} : (symG T n a).1 ≠ 40 ∧ (symG T n a).1 ≠ 41 := by
  obtain ⟨z0, z1⟩ := sLn_0
  have mt0 : ∀ l i, 1 ≤ l → mt T n a l i = true → sLn i = l := fun l i h e => by
    unfold mt at e
    rw [Bool.and_eq_true] at e
    exact of_decide_eq_true e.1
  unfold symG
  cases h2 : fndN (mt T n a 2) 45 0 with
  | some i =>
    obtain ⟨-, -, i2⟩ := fndN_s 45 0 i h2
    have := mt0 2 i (by decide) i2
    refine ⟨fun e => ?_, fun e => ?_⟩
    · have e : i = 40 := e
      rw [e, z0] at this; exact absurd this (by decide)
    · have e : i = 41 := e
      rw [e, z1] at this; exact absurd this (by decide)
  | none =>
    cases h1 : fndN (mt T n a 1) 45 0 with
    | some i =>
      obtain ⟨-, -, i2⟩ := fndN_s 45 0 i h1
      have := mt0 1 i (by decide) i2
      refine ⟨fun e => ?_, fun e => ?_⟩
      · have e : i = 40 := e
        rw [e, z0] at this; exact absurd this (by decide)
      · have e : i = 41 := e
        rw [e, z1] at this; exact absurd this (by decide)
    | none => exact ⟨by show (43 : Nat) ≠ 40; decide, by show (43 : Nat) ≠ 41; decide⟩
theorem wdG_n {T : Nat → Nat} {n a : Nat} (h : a < wEnd T n a) : (wdG T n a = 40 → wEnd T n a - a ≤ 10) ∧ wdG T n a ≠ 41 := by
  obtain ⟨z0, z1⟩ := sLn_0
  unfold wdG
  by_cases c : wEnd T n a - a ≤ 10
  · rw [if_pos c]
    refine ⟨fun _ => c, ?_⟩
    cases h2 : fndN (mt T n a (wEnd T n a - a)) 45 0 with
    | some i =>
      obtain ⟨-, -, i2⟩ := fndN_s 45 0 i h2
      intro e
      have e : i = 41 := e
      unfold mt at i2
      rw [Bool.and_eq_true] at i2
      have := of_decide_eq_true i2.1
      rw [e, z1] at this
      omega
    | none => show (40 : Nat) ≠ 41; decide
  · rw [if_neg c]
    exact ⟨fun e => absurd e (by decide), by decide⟩
/-- the place of a name, of a number -/
theorem tok_40 {T : Nat → Nat} {n i : Nat} (h : tok T n i = 40) : pos T n i < n ∧ isL (T (pos T n i)) = true ∧ tkE T n (pos T n i) = wEnd T n (pos T n i) ∧ pos T n i < wEnd T n (pos T n i) ∧ wEnd T n (pos T n i) - pos T n i ≤ 10 ∧ wEnd T n (pos T n i) ≤ n ∧ (∀ j, pos T n i ≤ j → j < wEnd T n (pos T n i) → isA (T j) = true) ∧ vsT T n i = wv T (pos T n i) (wEnd T n (pos T n i) - pos T n i) := by
  have hv : vsT T n i = (tkJ T n (pos T n i)).getD 0 := if_pos (.inl h)
  rw [hv]
  unfold tok at h
  generalize pos T n i = a at *
  by_cases c : i < 400 ∨ n ≤ a
  · rw [if_pos c] at h
    unfold tkG at h
    unfold tkE tkJ
    by_cases c1 : a < n
    · rw [if_pos c1] at h
      rw [if_pos c1, if_pos c1]
      by_cases c2 : isL (T a) = true
      · rw [if_pos c2] at h
        rw [if_pos c2, if_pos c2]
        obtain ⟨s1, s2, s3, s4⟩ := stp_p (P := isA) (T := T) (n - a) a
        have hlt : a < wEnd T n a := by
          unfold wEnd
          rw [show n - a = (n - a - 1) + 1 by omega, stp, if_pos (show isA (T a) = true by unfold isA; rw [c2]; rfl)]
          have := (stp_p (P := isA) (T := T) (n - a - 1) (a + 1)).1
          omega
        refine ⟨c1, c2, rfl, hlt, (wdG_n hlt).1 h, by unfold wEnd; omega, s3, rfl⟩
      · rw [if_neg c2] at h
        by_cases c3 : isD (T a) = true
        · rw [if_pos c3] at h
          unfold nmG at h
          by_cases c4 : nEnd T n a - a ≤ 6
          · rw [if_pos c4] at h; exact absurd h (by decide)
          · rw [if_neg c4] at h; exact absurd h (by decide)
        · rw [if_neg c3] at h
          exact absurd h symG_n.1
    · rw [if_neg c1] at h; exact absurd h (by decide)
  · rw [if_neg c] at h; exact absurd h (by decide)
theorem tok_41 {T : Nat → Nat} {n i : Nat} (h : tok T n i = 41) : pos T n i < n ∧ tkE T n (pos T n i) = nEnd T n (pos T n i) ∧ pos T n i ≤ nEnd T n (pos T n i) ∧ nEnd T n (pos T n i) - pos T n i ≤ 6 ∧ nEnd T n (pos T n i) ≤ n ∧ (∀ j, pos T n i ≤ j → j < nEnd T n (pos T n i) → isD (T j) = true) ∧ vsT T n i = nv T (pos T n i) (nEnd T n (pos T n i) - pos T n i) := by
  have hv : vsT T n i = (tkJ T n (pos T n i)).getD 0 := if_pos (.inr h)
  rw [hv]
  unfold tok at h
  generalize pos T n i = a at *
  by_cases c : i < 400 ∨ n ≤ a
  · rw [if_pos c] at h
    unfold tkG at h
    unfold tkE tkJ
    by_cases c1 : a < n
    · rw [if_pos c1] at h
      rw [if_pos c1, if_pos c1]
      by_cases c2 : isL (T a) = true
      · rw [if_pos c2] at h
        have hlt : a < wEnd T n a := by
          unfold wEnd
          rw [show n - a = (n - a - 1) + 1 by omega, stp, if_pos (show isA (T a) = true by unfold isA; rw [c2]; rfl)]
          have := (stp_p (P := isA) (T := T) (n - a - 1) (a + 1)).1
          omega
        exact absurd h (wdG_n hlt).2
      · rw [if_neg c2] at h
        rw [if_neg c2, if_neg c2]
        by_cases c3 : isD (T a) = true
        · rw [if_pos c3] at h
          rw [if_pos c3, if_pos c3]
          obtain ⟨s1, s2, s3, s4⟩ := stp_p (P := isD) (T := T) (n - a) a
          have h6 : nEnd T n a - a ≤ 6 := by
            unfold nmG at h
            by_cases c4 : nEnd T n a - a ≤ 6
            · exact c4
            · rw [if_neg c4] at h; exact absurd h (by decide)
          exact ⟨c1, rfl, s1, h6, by unfold nEnd; omega, s3, rfl⟩
        · rw [if_neg c3] at h
          exact absurd h symG_n.2
    · rw [if_neg c1] at h; exact absurd h (by decide)
  · rw [if_neg c] at h; exact absurd h (by decide)
/-! a word as a number -/
theorem isA_b {x : Nat} (h : isA x = true) : 48 ≤ x ∧ x ≤ 122 ∧ (x ≤ 57 ∨ 97 ≤ x) := by
  unfold isA isL isD at h
  rw [Bool.or_eq_true, Bool.and_eq_true, Bool.and_eq_true] at h
  rcases h with ⟨a, b⟩ | ⟨a, b⟩
  · have := of_decide_eq_true a
    have := of_decide_eq_true b
    omega
  · have := of_decide_eq_true a
    have := of_decide_eq_true b
    omega
theorem isD_b {x : Nat} (h : isD x = true) : 48 ≤ x ∧ x ≤ 57 := by
  unfold isD at h
  rw [Bool.and_eq_true] at h
  exact ⟨of_decide_eq_true h.1, of_decide_eq_true h.2⟩
theorem dg_b {x : Nat} (h : isA x = true) : 1 ≤ dg x ∧ dg x ≤ 36 := by
  have := isA_b h
  unfold dg
  split <;> omega
theorem dg_i {x y : Nat} (hx : isA x = true) (hy : isA y = true) (h : dg x = dg y) : x = y := by
  have h1 := isA_b hx
  have h2 := isA_b hy
  unfold dg at h
  by_cases c : 97 ≤ x
  · rw [if_pos c] at h
    by_cases d : 97 ≤ y
    · rw [if_pos d] at h; omega
    · rw [if_neg d] at h; omega
  · rw [if_neg c] at h
    by_cases d : 97 ≤ y
    · rw [if_pos d] at h; omega
    · rw [if_neg d] at h; omega
theorem wv_i {T : Nat → Nat} {a b : Nat} : ∀ l k, (∀ j, a ≤ j → j < a + l → isA (T j) = true) → (∀ j, b ≤ j → j < b + k → isA (T j) = true) → (wv T a l = wv T b k ↔ l = k ∧ ∀ j, j < l → T (a + j) = T (b + j))
  | 0, 0, _, _ => ⟨fun _ => ⟨rfl, fun j hj => absurd hj (Nat.not_lt_zero _)⟩, fun _ => rfl⟩
  | 0, k + 1, _, h2 => by
    have := dg_b (h2 (b + k) (by omega) (by omega))
    constructor
    · intro e
      have e : 0 = wv T b k * 37 + dg (T (b + k)) := e
      omega
    · rintro ⟨e, -⟩; omega
  | l + 1, 0, h1, _ => by
    have := dg_b (h1 (a + l) (by omega) (by omega))
    constructor
    · intro e
      have e : wv T a l * 37 + dg (T (a + l)) = 0 := e
      omega
    · rintro ⟨e, -⟩; omega
  | l + 1, k + 1, h1, h2 => by
    have d1 := dg_b (h1 (a + l) (by omega) (by omega))
    have d2 := dg_b (h2 (b + k) (by omega) (by omega))
    have ih := wv_i (T := T) (a := a) (b := b) l k (fun j j1 j2 => h1 j j1 (by omega)) (fun j j1 j2 => h2 j j1 (by omega))
    rw [wv, wv]
    constructor
    · intro e
      have e1 : wv T a l = wv T b k := by omega
      have e2 : dg (T (a + l)) = dg (T (b + k)) := by omega
      obtain ⟨i1, i2⟩ := ih.mp e1
      refine ⟨by omega, fun j hj => ?_⟩
      by_cases z : j = l
      · rw [z]
        have := dg_i (h1 (a + l) (by omega) (by omega)) (h2 (b + k) (by omega) (by omega)) e2
        rw [i1] at this ⊢
        exact this
      · exact i2 j (by omega)
    · rintro ⟨e, f⟩
      have e0 : l = k := by omega
      have e1 := ih.mpr ⟨e0, fun j hj => f j (by omega)⟩
      have e2 := f l (by omega)
      rw [e1, e2, e0]
theorem wv_b {T : Nat → Nat} {a : Nat} : ∀ l, (∀ j, a ≤ j → j < a + l → isA (T j) = true) → wv T a l < 37 ^ l
  | 0, _ => by show 0 < 1; decide
  | l + 1, h => by
    have := dg_b (h (a + l) (by omega) (by omega))
    have := wv_b (T := T) (a := a) l (fun j j1 j2 => h j j1 (by omega))
    rw [wv, Nat.pow_succ]
    omega
theorem nv_b {T : Nat → Nat} {a : Nat} : ∀ l, (∀ j, a ≤ j → j < a + l → isD (T j) = true) → nv T a l < 10 ^ l
  | 0, _ => by show 0 < 1; decide
  | l + 1, h => by
    have := isD_b (h (a + l) (by omega) (by omega))
    have := nv_b (T := T) (a := a) l (fun j j1 j2 => h j j1 (by omega))
    rw [nv, Nat.pow_succ]
    omega
theorem vsT_41 {T : Nat → Nat} {n i : Nat} (h : tok T n i = 41) : vsT T n i < 1000000 := by
  obtain ⟨h1, h2, h3, h4, h5, h6, h7⟩ := tok_41 h
  rw [h7]
  have b := nv_b (T := T) (a := pos T n i) (nEnd T n (pos T n i) - pos T n i) (fun j j1 j2 => h6 j j1 (by omega))
  have p : 10 ^ (nEnd T n (pos T n i) - pos T n i) ≤ 10 ^ 6 := Nat.pow_le_pow_right (by decide) h4
  exact Nat.lt_of_lt_of_le b p
theorem vsT_b {T : Nat → Nat} {n i : Nat} : vsT T n i < 2 ^ 62 := by
  by_cases c : tok T n i = 40
  · obtain ⟨h1, h2, h3, h4, h5, h6, h7, h8⟩ := tok_40 c
    rw [h8]
    have b := wv_b (T := T) (a := pos T n i) (wEnd T n (pos T n i) - pos T n i) (fun j j1 j2 => h7 j j1 (by omega))
    have p : 37 ^ (wEnd T n (pos T n i) - pos T n i) ≤ 37 ^ 10 := Nat.pow_le_pow_right (by decide) h5
    exact Nat.lt_trans (Nat.lt_of_lt_of_le b p) (by decide)
  · by_cases c1 : tok T n i = 41
    · exact Nat.lt_trans (vsT_41 c1) (by decide)
    · unfold vsT
      rw [if_neg (fun z => z.elim c c1)]
      decide
