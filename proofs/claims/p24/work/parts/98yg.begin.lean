/-! ## Pure: the reference begins anew -/
def bgR (j : Nat) : Nat := [2, 3, 5, 6, 8, 9, 10, 11, 12].getD j 0
theorem bgR_1 : ∀ j, j < 9 → 2 ≤ bgR j ∧ bgR j ≤ 12 ∧ bgR j ≠ 4 ∧ bgR j ≠ 7 ∧ lenS (bgR j) ≤ 64 := by decide
theorem bgR_2 : ∀ i, i < 9 → ∀ j, j < 9 → bgR i = bgR j → i = j := by decide
def bgA (a N : Nat) : Nat → gMem → gMem
  | 0, M => M
  | j + 1, M => wR (bgA a N j M) N j (some (a + bgR j))
theorem bgA_f {a N : Nat} {M : gMem} : ∀ j, mT (bgA a N j M) = mT M ∧ mL (bgA a N j M) = mL M ∧ mI (bgA a N j M) = mI M ∧ mJ (bgA a N j M) = mJ M ∧ mN (bgA a N j M) = mN M ∧ (∀ b, b ≠ N → mR (bgA a N j M) b = mR M b) ∧ ∀ i, i < j → mR (bgA a N j M) N i = some (a + bgR i)
  | 0 => ⟨rfl, rfl, rfl, rfl, rfl, fun _ _ => rfl, fun i h => absurd h (Nat.not_lt_zero _)⟩
  | j + 1 => by
    obtain ⟨h1, h2, h3, h4, h5, h6, h7⟩ := bgA_f (a := a) (N := N) (M := M) j
    have e : ∀ b k, mR (bgA a N (j + 1) M) b k = if b = N ∧ k = j then some (a + bgR j) else mR (bgA a N j M) b k := fun _ _ => rfl
    refine ⟨h1, h2, h3, h4, h5, fun b hb => ?_, fun i hi => ?_⟩
    · rw [← h6 b hb]
      funext k
      rw [e, if_neg (fun z => hb z.1)]
    · rw [e]
      by_cases z : i = j
      · rw [if_pos ⟨rfl, z⟩, z]
      · rw [if_neg (fun w => z w.2)]; exact h7 i (by omega)
theorem LS_e {m t a : Nat} {M X : gMem} (L : LSt m t a M) (h : ∀ b, b < mN M → mT X b = mT M b ∧ mL X b = mL M b ∧ mR X b = mR M b) (hm : m < mN M) (ha : a + 17 ≤ mN M) (ht : t + 17 ≤ mN M) : LSt m t a X := by
  obtain ⟨⟨a1, a2, a3, a4, a5⟩, b, c, d, e⟩ := L
  refine ⟨⟨by rw [(h a (by omega)).1]; exact a1, by rw [(h a (by omega)).2.2]; exact a2, by rw [(h m hm).1]; exact a3, by rw [(h m hm).2.2]; exact a4, by rw [(h t (by omega)).1]; exact a5⟩, b, fun j j1 j2 => ?_, fun j j1 j2 => ?_, fun k k1 k2 => ?_⟩
  · obtain ⟨x, y, z⟩ := c j j1 j2
    exact ⟨by rw [(h (a + j) (by omega)).1]; exact x, by rw [(h (a + j) (by omega)).2.1]; exact y, by rw [(h a (by omega)).2.2]; exact z⟩
  · obtain ⟨x, y⟩ := d j j1 j2
    exact ⟨by rw [(h (t + j) (by omega)).1]; exact x, by rw [(h (t + j) (by omega)).2.1]; exact y⟩
  · rw [(h t (by omega)).2.2]; exact e k k1 k2
theorem nW_bC {n a g l : Nat} {st : Nat → Nat → Int32} {M : gMem} (h : a + n ≤ mN M) : nW (bC n a st M) g l = bC n a st (nW M g l) := by
  unfold bC
  show (up1 (mT M) (mN M) g, up1 (mL M) (mN M) l, up1 (fun b k => if a ≤ b ∧ b < a + n then st (b - a) k else mI M b k) (mN M) (fun _ => 0), up1 (mR M) (mN M) (fun _ => none), up1 (mJ M) (mN M) (fun _ => 0), mN M + 1) = (up1 (mT M) (mN M) g, up1 (mL M) (mN M) l, (fun b k => if a ≤ b ∧ b < a + n then st (b - a) k else up1 (mI M) (mN M) (fun _ => 0) b k), up1 (mR M) (mN M) (fun _ => none), up1 (mJ M) (mN M) (fun _ => 0), mN M + 1)
  have e : up1 (fun b k => if a ≤ b ∧ b < a + n then st (b - a) k else mI M b k) (mN M) (fun _ => (0 : Int32)) = (fun b k => if a ≤ b ∧ b < a + n then st (b - a) k else up1 (mI M) (mN M) (fun _ => 0) b k) := by
    funext b k
    unfold up1
    by_cases z : b = mN M
    · rw [if_pos z, if_neg (by omega), if_pos z]
    · rw [if_neg z, if_neg z]
  rw [e]
