/-! ## Pure: a fisher of the reference fishes -/
theorem bC_Ic {n a d k : Nat} {st : Nat → Nat → Int32} {M : gMem} (hk : k < 2 ^ 31) (h : d < n) : mI (bC n a st M) (a + d) (nI k).toNatClampNeg = st d k := by
  rw [nI_clamp hk, bC_I h]
theorem bC_Wc {n a d k : Nat} {v : Int32} {st : Nat → Nat → Int32} {M : gMem} (hk : k < 2 ^ 31) (h : d < n) : wI (bC n a st M) (a + d) (nI k).toNatClampNeg v = bC n a (up2 st d k v) M := by
  rw [nI_clamp hk, bC_W h]
theorem q_Ic {j k m t a : Nat} {st : Nat → Nat → Int32} {M : gMem} (L : LSt m t a M) (hk : k < 2 ^ 31) (h : j < 17) : mI (bC 17 a st M) (t + j) (nI k).toNatClampNeg = mI M (t + j) k := by
  rw [nI_clamp hk, q_Ij L h]
/-- the fish row F and the net row N in a State -/
def fnS (st : Nat → Nat → Int32) (F N : Nat → Int32) : Nat → Nat → Int32 := up1 (up1 st 1 F) 15 N
theorem fnS_1 {st : Nat → Nat → Int32} {F N : Nat → Int32} : fnS st F N 1 = F := by
  unfold fnS; rw [up1_o (by omega), up1_e]
theorem fnS_15 {st : Nat → Nat → Int32} {F N : Nat → Int32} : fnS st F N 15 = N := by
  unfold fnS; rw [up1_e]
theorem fnS_o {st : Nat → Nat → Int32} {F N : Nat → Int32} {d : Nat} (h : d ≠ 1 ∧ d ≠ 15) : fnS st F N d = st d := by
  unfold fnS; rw [up1_o h.2, up1_o h.1]
theorem fnS_w1 {st : Nat → Nat → Int32} {F N : Nat → Int32} {k : Nat} {v : Int32} : up2 (fnS st F N) 1 k v = fnS st (up1 F k v) N := by
  unfold fnS
  rw [up2_up1c (by omega), up2_up1s]
theorem fnS_w15 {st : Nat → Nat → Int32} {F N : Nat → Int32} {k : Nat} {v : Int32} : up2 (fnS st F N) 15 k v = fnS st F (up1 N k v) := by
  unfold fnS
  rw [up2_up1s]
theorem fnS_self (st : Nat → Nat → Int32) : fnS st (st 1) (st 15) = st := by
  unfold fnS
  rw [up1_self]
  exact up1_self st 15
theorem nI_up {a b : Nat} : nI a + nI b = nI (a + b) := nI_add a b
/-- sizes that are too small, and all behind a torn net, change nothing -/
theorem hlN_stop {fk : Nat → Nat} {h w m j : Nat} (c : ¬ (m ≤ 5 - j ∧ (hlN fk h w m j).2.2.2 = 0)) : ∀ d, hlN fk h w m (j + d) = hlN fk h w m j
  | 0 => rfl
  | d + 1 => by
    have e := hlN_stop c d
    rw [← Nat.add_assoc, hlN, e, if_neg]
    intro z
    exact c ⟨by omega, z.2⟩
/-- all that is caught, and its weight, by sizes -/
theorem hlN_sum {fk : Nat → Nat} {h w m : Nat} : ∀ j, j ≤ 5 → (∀ i, i ≤ j → kpN (hlN fk h w m j).1 0 (5 - i) + (if i = j then (hlN fk h w m j).2.1 else 0) = kpN (hlN fk h w m j).1 0 (5 - i) + (if i = j then (hlN fk h w m j).2.1 else 0)) ∧ kpN (hlN fk h w m j).1 0 5 = (hlN fk h w m j).2.1 ∧ wgN (hlN fk h w m j).1 0 5 = (hlN fk h w m j).2.2.1
  | 0, _ => ⟨fun _ _ => rfl, rfl, rfl⟩
  | j + 1, hj => by
    obtain ⟨-, h1, h2⟩ := hlN_sum (fk := fk) (h := h) (w := w) (m := m) j (by omega)
    have hz := (hlN_b (fk := fk) (h := h) (w := w) (m := m) j).2.2.2.1
    refine ⟨fun _ _ => rfl, ?_⟩
    rw [hlN]
    by_cases c : m ≤ 5 - j ∧ (hlN fk h w m j).2.2.2 = 0
    · rw [if_pos c]
      unfold hl1
      generalize hlN fk h w m j = q at h1 h2 hz
      obtain ⟨r, k, x, t⟩ := q
      simp only at h1 h2 hz ⊢
      generalize min (min (fk (5 - j)) (h - k)) ((w - x) / (5 - j)) = v
      simp only [kpN, wgN, Nat.zero_le, if_true] at h1 h2 ⊢
      have hj' : j = 0 ∨ j = 1 ∨ j = 2 ∨ j = 3 ∨ j = 4 := by omega
      rcases hj' with rfl | rfl | rfl | rfl | rfl
      · have z1 := hz 5 (by omega) (by omega)
        simp [up1] at h1 h2 ⊢
        omega
      · have z1 := hz 4 (by omega) (by omega)
        simp [up1] at h1 h2 ⊢
        omega
      · have z1 := hz 3 (by omega) (by omega)
        simp [up1] at h1 h2 ⊢
        omega
      · have z1 := hz 2 (by omega) (by omega)
        simp [up1] at h1 h2 ⊢
        omega
      · have z1 := hz 1 (by omega) (by omega)
        simp [up1] at h1 h2 ⊢
        omega
    · rw [if_neg c]
      exact ⟨h1, h2⟩
/-- of the sizes below m up to n -/
def lwK (hl : Nat → Nat) (m : Nat) : Nat → Nat
  | 0 => 0
  | n + 1 => lwK hl m n + (if m ≤ n + 1 then 0 else hl (n + 1))
def lwW (hl : Nat → Nat) (m : Nat) : Nat → Nat
  | 0 => 0
  | n + 1 => lwW hl m n + (if m ≤ n + 1 then 0 else hl (n + 1) * (n + 1))
theorem lw_kp {hl : Nat → Nat} {m : Nat} : ∀ n, lwK hl m n + kpN hl m n = kpN hl 0 n ∧ lwW hl m n + wgN hl m n = wgN hl 0 n
  | 0 => ⟨rfl, rfl⟩
  | n + 1 => by
    obtain ⟨h1, h2⟩ := lw_kp (hl := hl) (m := m) n
    simp only [lwK, lwW, kpN, wgN, Nat.zero_le, if_true]
    by_cases c : m ≤ n + 1
    · rw [if_pos c, if_pos c, if_pos c, if_pos c]; omega
    · rw [if_neg c, if_neg c, if_neg c, if_neg c]; omega
theorem lw_stop {hl : Nat → Nat} {m n : Nat} (h : m ≤ n + 1) : ∀ d, lwK hl m (n + d) = lwK hl m n ∧ lwW hl m (n + d) = lwW hl m n
  | 0 => ⟨rfl, rfl⟩
  | d + 1 => by
    obtain ⟨h1, h2⟩ := lw_stop (hl := hl) h d
    rw [← Nat.add_assoc]
    simp only [lwK, lwW]
    rw [if_pos (by omega), if_pos (by omega), h1, h2]
    exact ⟨rfl, rfl⟩
/-- the catch and the took of f are written -/
def endS (st : Nat → Nat → Int32) (g f : Nat) (x c : Int32) : Nat → Nat → Int32 := up2 (up2 st 6 f x) 3 (8 * g + f) (st 3 (8 * g + f) + c)
