/-! ## Pure: the reference begins anew -/
def bgR (j : Nat) : Nat := [2, 3, 5, 6, 8, 9, 10, 11, 12].getD j 0
theorem bgR_1 : ∀ j, j < 9 → 2 ≤ bgR j ∧ bgR j ≤ 12 ∧ bgR j ≠ 4 ∧ bgR j ≠ 7 ∧ lenS (bgR j) ≤ 64 := by decide
theorem bgR_2 : ∀ i, i < 9 → ∀ j, j < 9 → bgR i = bgR j → i = j := by decide
def bgA (a N : Nat) : Nat → gMem → gMem
  | 0, M => M
  | j + 1, M => wR (bgA a N j M) N j (some (a + bgR j))
theorem bgA_f {a N : Nat} {M : gMem} : ∀ j, mT (bgA a N j M) = mT M ∧ mL (bgA a N j M) = mL M ∧ mI (bgA a N j M) = mI M ∧ mJ (bgA a N j M) = mJ M ∧ mN (bgA a N j M) = mN M ∧ (∀ b, b ≠ N → mR (bgA a N j M) b = mR M b) ∧ ∀ i, i < j → mR (bgA a N j M) N i = some (a + bgR i)
  | 0 => ⟨rfl, rfl, rfl, rfl, rfl, fun _ _ => rfl, fun i h => absurd h (Nat.not_lt_zero _)⟩
  | j + 1 => by
    obtain ⟨h1, h2, h3, h4, h5, h6, h7⟩ := bgA_f (a := a) (N := N) (M := M) j
    have e : ∀ b k, mR (bgA a N (j + 1) M) b k = if b = N ∧ k = j then some (a + bgR j) else mR (bgA a N j M) b k := fun _ _ => rfl
    refine ⟨h1, h2, h3, h4, h5, fun b hb => ?_, fun i hi => ?_⟩
    · rw [← h6 b hb]
      funext k
      rw [e, if_neg (fun z => hb z.1)]
    · rw [e]
      by_cases z : i = j
      · rw [if_pos ⟨rfl, z⟩, z]
      · rw [if_neg (fun w => z w.2)]; exact h7 i (by omega)
theorem LS_e {m t a : Nat} {M X : gMem} (L : LSt m t a M) (h : ∀ b, b < mN M → mT X b = mT M b ∧ mL X b = mL M b ∧ mR X b = mR M b) (hm : m < mN M) (ha : a + 17 ≤ mN M) (ht : t + 17 ≤ mN M) : LSt m t a X := by
  obtain ⟨⟨a1, a2, a3, a4, a5⟩, b, c, d, e⟩ := L
  refine ⟨⟨by rw [(h a (by omega)).1]; exact a1, by rw [(h a (by omega)).2.2]; exact a2, by rw [(h m hm).1]; exact a3, by rw [(h m hm).2.2]; exact a4, by rw [(h t (by omega)).1]; exact a5⟩, b, fun j j1 j2 => ?_, fun j j1 j2 => ?_, fun k k1 k2 => ?_⟩
  · obtain ⟨x, y, z⟩ := c j j1 j2
    exact ⟨by rw [(h (a + j) (by omega)).1]; exact x, by rw [(h (a + j) (by omega)).2.1]; exact y, by rw [(h a (by omega)).2.2]; exact z⟩
  · obtain ⟨x, y⟩ := d j j1 j2
    exact ⟨by rw [(h (t + j) (by omega)).1]; exact x, by rw [(h (t + j) (by omega)).2.1]; exact y⟩
  · rw [(h t (by omega)).2.2]; exact e k k1 k2
theorem nW_bC {n a g l : Nat} {st : Nat → Nat → Int32} {M : gMem} (h : a + n ≤ mN M) : nW (bC n a st M) g l = bC n a st (nW M g l) := by
  unfold bC
  show (up1 (mT M) (mN M) g, up1 (mL M) (mN M) l, up1 (fun b k => if a ≤ b ∧ b < a + n then st (b - a) k else mI M b k) (mN M) (fun _ => 0), up1 (mR M) (mN M) (fun _ => none), up1 (mJ M) (mN M) (fun _ => 0), mN M + 1) = (up1 (mT M) (mN M) g, up1 (mL M) (mN M) l, (fun b k => if a ≤ b ∧ b < a + n then st (b - a) k else up1 (mI M) (mN M) (fun _ => 0) b k), up1 (mR M) (mN M) (fun _ => none), up1 (mJ M) (mN M) (fun _ => 0), mN M + 1)
  have e : up1 (fun b k => if a ≤ b ∧ b < a + n then st (b - a) k else mI M b k) (mN M) (fun _ => (0 : Int32)) = (fun b k => if a ≤ b ∧ b < a + n then st (b - a) k else up1 (mI M) (mN M) (fun _ => 0) b k) := by
    funext b k
    unfold up1
    by_cases z : b = mN M
    · rw [if_pos z, if_neg (by omega), if_pos z]
    · rw [if_neg z, if_neg z]
  rw [e]
theorem X12_cp {a b e n : Nat} {st : Nat → Nat → Int32} {M : gMem} (hb : b < a ∨ a + 17 ≤ b) (he : e < 17) (t1 : mT M b = 20) (t2 : mT M (a + e) = 20) (l1 : mL M b = n) (l2 : mL M (a + e) = n) (hn : n ≤ 400) : f_X12_copy (bC 17 a st M) a (some b) (some (a + e)) = some ((), bC 17 a (up1 st e (va_cpy (mI M b) (st e) 0 0 n)) M) := by
  have hl1 : mL (bC 17 a st M) b = n := l1
  have hl2 : mL (bC 17 a st M) (a + e) = n := l2
  have hc : (Int32.ofNat n).toNatClampNeg = n := nI_clamp (by omega)
  have h0 : ((0 : Int32)).toNatClampNeg = 0 := rfl
  unfold f_X12_copy b_X12_copy_0
  rw [dr_S, ck_t (show mT (bC 17 a st M) b = 20 from t1), dr_S, ck_t (show mT (bC 17 a st M) (a + e) = 20 from t2), hl1, hl2, ck_t (show ¬ Int32.ofNat n < 0 from nI_pos (by omega)), hc, h0, ck_t (by omega), ck_t (by omega), lw_S, bC_cpo hb he]
/-- one row is emptied -/
theorem bg_131 {a N d x : Nat} {st : Nat → Nat → Int32} {M : gMem} {w : Option Nat} {y : Int32} (hd : d < 17) (t1 : mT M (a + d) = 20) (l1 : mL M (a + d) = lenS d) (hl : lenS d ≤ 400) (hx : x < 9) : lp_X12_begin_131 (bC 17 a st M) a w y (nI x) (some (a + d)) (nI 0) = some (.inl (bC 17 a (up1 st d (fun k => if k < lenS d then 0 else st d k)) M, nI (x + 1))) := by
  have h := lp_seq (f := fun (q : gMem × Int32) => bb_X12_begin_131 q.1 a w y (nI x) (some (a + d)) q.2) (b := (Sum.inl (bC 17 a (up1 st d (fun k => if k < lenS d then 0 else st d k)) M, nI (x + 1)) : (gMem × Int32) ⊕ (Unit × gMem))) (fun j => (bC 17 a (up1 st d (fun k => if k < j then 0 else st d k)) M, nI j)) 0 (lenS d) (Nat.zero_le _) (fun j _ hj => ?_) ?_
  · have e0 : up1 st d (fun k => if k < 0 then 0 else st d k) = st := by
      funext b k
      unfold up1
      by_cases z : b = d
      · rw [if_pos z, if_neg (Nat.not_lt_zero _), z]
      · rw [if_neg z]
    rw [e0] at h
    exact h
  · have q : inb (nI j) (lenS d) := (inbN (by omega)).mpr hj
    show bb_X12_begin_131 (bC 17 a (up1 st d (fun k => if k < j then 0 else st d k)) M) a w y (nI x) (some (a + d)) (nI j) = _
    unfold bb_X12_begin_131
    rw [dr_S, ck_t (show mT (bC 17 a (up1 st d (fun k => if k < j then 0 else st d k)) M) (a + d) = 20 from t1), show mL (bC 17 a (up1 st d (fun k => if k < j then 0 else st d k)) M) (a + d) = lenS d from l1, if_neg (fun z => by have := (nI_leI (a := lenS d) (b := j) (by omega) (by omega)).mp z; omega), ck_t q, nI_clamp (by omega), lw_S, bC_W hd, nI_1]
    have e : up2 (up1 st d (fun k => if k < j then 0 else st d k)) d j 0 = up1 st d (fun k => if k < j + 1 then 0 else st d k) := by
      funext b k
      unfold up2 up1
      by_cases z : b = d
      · by_cases y : k = j
        · rw [if_pos ⟨z, y⟩, if_pos z, if_pos (by omega)]
        · rw [if_neg (fun w => y w.2), if_pos z, if_pos z]
          by_cases v : k < j
          · rw [if_pos v, if_pos (by omega)]
          · rw [if_neg v, if_neg (by omega)]
      · rw [if_neg (fun w => z w.1), if_neg z, if_neg z]
    rw [e]
  · show bb_X12_begin_131 (bC 17 a (up1 st d (fun k => if k < lenS d then 0 else st d k)) M) a w y (nI x) (some (a + d)) (nI (lenS d)) = _
    unfold bb_X12_begin_131
    rw [dr_S, ck_t (show mT (bC 17 a (up1 st d (fun k => if k < lenS d then 0 else st d k)) M) (a + d) = 20 from t1), show mL (bC 17 a (up1 st d (fun k => if k < lenS d then 0 else st d k)) M) (a + d) = lenS d from l1, if_pos (show Int32.ofNat (lenS d) ≤ nI (lenS d) from Int32.le_refl _), nI_1]
    rfl
theorem bg_159 {a : Nat} {st : Nat → Nat → Int32} {M : gMem} (t0 : mT M a = 11) (r8 : mR M a 8 = some (a + 7)) (t7 : mT M (a + 7) = 20) (l7 : mL M (a + 7) = 8) : lp_X12_begin_159 (bC 17 a st M) a (nI 0) = some ((), bC 17 a (up1 st 7 (fun k => if k < 8 then -1 else st 7 k)) M) := by
  have h := lp_seq (f := fun (q : gMem × Int32) => bb_X12_begin_159 q.1 a q.2) (b := ((), bC 17 a (up1 st 7 (fun k => if k < 8 then -1 else st 7 k)) M)) (fun j => (bC 17 a (up1 st 7 (fun k => if k < j then -1 else st 7 k)) M, nI j)) 0 8 (Nat.zero_le _) (fun j _ hj => ?_) ?_
  · have e0 : up1 st 7 (fun k => if k < 0 then -1 else st 7 k) = st := by
      funext b k
      unfold up1
      by_cases z : b = 7
      · rw [if_pos z, if_neg (Nat.not_lt_zero _), z]
      · rw [if_neg z]
    rw [e0] at h
    exact h
  · have q : inb (nI j) 8 := (inbN (by omega)).mpr hj
    show bb_X12_begin_159 (bC 17 a (up1 st 7 (fun k => if k < j then -1 else st 7 k)) M) a (nI j) = _
    unfold bb_X12_begin_159
    rw [if_neg (fun z => by have := (nI_leI (a := 8) (b := j) (by omega) (by omega)).mp z; omega), ck_t (show mT (bC 17 a (up1 st 7 (fun k => if k < j then -1 else st 7 k)) M) a = 11 from t0), dr_s (show mR (bC 17 a (up1 st 7 (fun k => if k < j then -1 else st 7 k)) M) a 8 = some (a + 7) from r8), ck_t (show mT (bC 17 a (up1 st 7 (fun k => if k < j then -1 else st 7 k)) M) (a + 7) = 20 from t7), show mL (bC 17 a (up1 st 7 (fun k => if k < j then -1 else st 7 k)) M) (a + 7) = 8 from l7, ck_t q, nI_clamp (by omega), lw_S, bC_W (by omega), nI_1]
    have e : up2 (up1 st 7 (fun k => if k < j then -1 else st 7 k)) 7 j (-1) = up1 st 7 (fun k => if k < j + 1 then -1 else st 7 k) := by
      funext b k
      unfold up2 up1
      by_cases z : b = 7
      · by_cases y : k = j
        · rw [if_pos ⟨z, y⟩, if_pos z, if_pos (by omega)]
        · rw [if_neg (fun w => y w.2), if_pos z, if_pos z]
          by_cases v : k < j
          · rw [if_pos v, if_pos (by omega)]
          · rw [if_neg v, if_neg (by omega)]
      · rw [if_neg (fun w => z w.1), if_neg z, if_neg z]
    rw [e]
  · show bb_X12_begin_159 (bC 17 a (up1 st 7 (fun k => if k < 8 then -1 else st 7 k)) M) a (nI 8) = _
    unfold bb_X12_begin_159
    rw [if_pos (show (8 : Int32) ≤ nI 8 from Int32.le_refl _)]
    rfl
theorem r_begin {m t a : Nat} {st : Nat → Nat → Int32} {M : gMem} (L : LSt m t a M) (hm : m < mN M) (ha : a + 17 ≤ mN M) (ht : t + 17 ≤ mN M) : ∃ st', f_X12_begin (bC 17 a st M) a = some ((), bC 17 a st' (bgA a (mN M) 9 (nW M 28 9))) ∧ st' 0 = st 0 ∧ (∀ k, k < 40 → st' 1 k = mI M (t + 2) k) ∧ (∀ k, k < 8 → st' 4 k = mI M (t + 3) k) ∧ (∀ j k, j < 9 → k < lenS (bgR j) → st' (bgR j) k = 0) ∧ (∀ k, k < 8 → st' 7 k = -1) := by
  have hta := L.2.1
  have fN : ∀ b, b < mN M → mT (nW M 28 9) b = mT M b ∧ mL (nW M 28 9) b = mL M b ∧ mR (nW M 28 9) b = mR M b := fun b hb => ⟨if_neg (by omega), if_neg (by omega), if_neg (by omega)⟩
  have fA : ∀ j b, b < mN M → mT (bgA a (mN M) j (nW M 28 9)) b = mT M b ∧ mL (bgA a (mN M) j (nW M 28 9)) b = mL M b ∧ mR (bgA a (mN M) j (nW M 28 9)) b = mR M b := fun j b hb => by
    obtain ⟨h1, h2, -, -, -, h6, -⟩ := bgA_f (a := a) (N := mN M) (M := nW M 28 9) j
    rw [h1, h2, h6 b (by omega)]
    exact fN b hb
  have tN : ∀ j, mT (bgA a (mN M) j (nW M 28 9)) (mN M) = 28 ∧ mL (bgA a (mN M) j (nW M 28 9)) (mN M) = 9 := fun j => by
    obtain ⟨h1, h2, -⟩ := bgA_f (a := a) (N := mN M) (M := nW M 28 9) j
    rw [h1, h2]
    exact ⟨if_pos rfl, if_pos rfl⟩
  have LA : ∀ j, LSt m t a (bgA a (mN M) j (nW M 28 9)) := fun j => LS_e L (fun b hb => fA j b hb) hm ha ht
  -- the copies
  have c1 := X12_cp (a := a) (b := t + 2) (e := 1) (n := 40) (st := st) (M := M) (by omega) (by decide) (L.2.2.2.1 2 (by decide) (by decide)).1 (L.2.2.1 1 (by decide) (by decide)).1 (L.2.2.2.1 2 (by decide) (by decide)).2 (L.2.2.1 1 (by decide) (by decide)).2.1 (by decide)
  have c2 := X12_cp (a := a) (b := t + 3) (e := 4) (n := 8) (st := up1 st 1 (va_cpy (mI M (t + 2)) (st 1) 0 0 40)) (M := M) (by omega) (by decide) (L.2.2.2.1 3 (by decide) (by decide)).1 (L.2.2.1 4 (by decide) (by decide)).1 (L.2.2.2.1 3 (by decide) (by decide)).2 (L.2.2.1 4 (by decide) (by decide)).2.1 (by decide)
  generalize hs2 : up1 (up1 st 1 (va_cpy (mI M (t + 2)) (st 1) 0 0 40)) 4 (va_cpy (mI M (t + 3)) (up1 st 1 (va_cpy (mI M (t + 2)) (st 1) 0 0 40) 4) 0 0 8) = s2 at c2
  have s20 : s2 0 = st 0 := by
    rw [← hs2]
    funext k
    rfl
  have s21 : ∀ k, k < 40 → s2 1 k = mI M (t + 2) k := fun k hk => by
    rw [← hs2]
    show va_cpy (mI M (t + 2)) (st 1) 0 0 40 k = _
    unfold va_cpy
    rw [if_pos (by omega)]
    congr 1
    omega
  have s24 : ∀ k, k < 8 → s2 4 k = mI M (t + 3) k := fun k hk => by
    rw [← hs2]
    show va_cpy (mI M (t + 3)) _ 0 0 8 k = _
    unfold va_cpy
    rw [if_pos (by omega)]
    congr 1
    omega
  -- the rows
  have rows : ∀ d x s, x + d = 9 → s 0 = st 0 → (∀ k, k < 40 → s 1 k = mI M (t + 2) k) → (∀ k, k < 8 → s 4 k = mI M (t + 3) k) → (∀ j k, j < x → k < lenS (bgR j) → s (bgR j) k = 0) → ∃ st', lp_X12_begin_116 (bC 17 a s (bgA a (mN M) 9 (nW M 28 9))) a (some (mN M)) (nI 9) (nI x) = some ((), bC 17 a st' (bgA a (mN M) 9 (nW M 28 9))) ∧ st' 0 = st 0 ∧ (∀ k, k < 40 → st' 1 k = mI M (t + 2) k) ∧ (∀ k, k < 8 → st' 4 k = mI M (t + 3) k) ∧ (∀ j k, j < 9 → k < lenS (bgR j) → st' (bgR j) k = 0) ∧ (∀ k, k < 8 → st' 7 k = -1) := by
    intro d
    induction d with
    | zero =>
      intro x s hx h0 h1 h4 hj
      have ex : x = 9 := by omega
      subst ex
      have LL := LA 9
      have e7 := bg_159 (st := s) LL.1.1 (LL.2.2.1 7 (by decide) (by decide)).2.2 (LL.2.2.1 7 (by decide) (by decide)).1 (LL.2.2.1 7 (by decide) (by decide)).2.1
      refine ⟨_, lp_oI1 (x := lp_X12_begin_159 (bC 17 a s (bgA a (mN M) 9 (nW M 28 9))) a (nI 0)) ?_ |>.trans e7, ?_, fun k hk => ?_, fun k hk => ?_, fun j k hj2 hk => ?_, fun k hk => ?_⟩
      · show bb_X12_begin_116 (bC 17 a s (bgA a (mN M) 9 (nW M 28 9))) a (some (mN M)) (nI 9) (nI 9) = _
        unfold bb_X12_begin_116
        rw [if_pos (Int32.le_refl _)]
        rfl
      · funext k
        show (up1 s 7 _) 0 k = _
        unfold up1
        rw [if_neg (by decide), h0]
      · show (up1 s 7 _) 1 k = _
        unfold up1
        rw [if_neg (by decide)]; exact h1 k hk
      · show (up1 s 7 _) 4 k = _
        unfold up1
        rw [if_neg (by decide)]; exact h4 k hk
      · have := (bgR_1 j hj2).2.2.2.1
        show (up1 s 7 _) (bgR j) k = _
        unfold up1
        rw [if_neg this]; exact hj j k hj2 hk
      · show (up1 s 7 _) 7 k = _
        unfold up1
        rw [if_pos rfl, if_pos hk]
    | succ d ih =>
      intro x s hx h0 h1 h4 hj
      have hx9 : x < 9 := by omega
      obtain ⟨r1, r2, r3, r4, r5⟩ := bgR_1 x hx9
      have LL := LA 9
      have q : inb (nI x) 9 := (inbN (by omega)).mpr hx9
      have row := bg_131 (st := s) (M := bgA a (mN M) 9 (nW M 28 9)) (x := x) (w := some (mN M)) (y := nI 9) (N := 0) (show bgR x < 17 by omega) (LL.2.2.1 (bgR x) (by omega) (by omega)).1 (LL.2.2.1 (bgR x) (by omega) (by omega)).2.1 (by omega) hx9
      have hb : bb_X12_begin_116 (bC 17 a s (bgA a (mN M) 9 (nW M 28 9))) a (some (mN M)) (nI 9) (nI x) = some (.inl (bC 17 a (up1 s (bgR x) (fun k => if k < lenS (bgR x) then 0 else s (bgR x) k)) (bgA a (mN M) 9 (nW M 28 9)), nI (x + 1))) := by
        unfold bb_X12_begin_116
        rw [if_neg (fun z => by have := (nI_leI (a := 9) (b := x) (by omega) (by omega)).mp z; omega), dr_S, ck_t (show mT (bC 17 a s (bgA a (mN M) 9 (nW M 28 9))) (mN M) = 28 from (tN 9).1), show mL (bC 17 a s (bgA a (mN M) 9 (nW M 28 9))) (mN M) = 9 from (tN 9).2, ck_t q, nI_clamp (by omega), show mR (bC 17 a s (bgA a (mN M) 9 (nW M 28 9))) (mN M) x = some (a + bgR x) from (bgA_f (a := a) (N := mN M) (M := nW M 28 9) 9).2.2.2.2.2.2 x hx9]
        exact row
      have e1 : lp_X12_begin_116 (bC 17 a s (bgA a (mN M) 9 (nW M 28 9))) a (some (mN M)) (nI 9) (nI x) = lp_X12_begin_116 (bC 17 a (up1 s (bgR x) (fun k => if k < lenS (bgR x) then 0 else s (bgR x) k)) (bgA a (mN M) 9 (nW M 28 9))) a (some (mN M)) (nI 9) (nI (x + 1)) := lp_in hb
      rw [e1]
      refine ih (x + 1) _ (by omega) ?_ (fun k hk => ?_) (fun k hk => ?_) (fun j k hj2 hk => ?_)
      · funext k
        unfold up1
        rw [if_neg (by omega), h0]
      · unfold up1
        rw [if_neg (by omega)]; exact h1 k hk
      · unfold up1
        rw [if_neg (by omega)]; exact h4 k hk
      · unfold up1
        by_cases z : j = x
        · rw [z, if_pos rfl, if_pos (by rw [← z]; exact hk)]
        · have : bgR j ≠ bgR x := fun w => z (bgR_2 j (by omega) x hx9 w)
          rw [if_neg this]; exact hj j k (by omega) hk
  obtain ⟨st', e, f⟩ := rows 9 0 s2 rfl s20 s21 s24 (fun j k hj _ => absurd hj (Nat.not_lt_zero _))
  refine ⟨st', ?_, f⟩
  -- the array of rows
  have stg : ∀ j, j < 9 → mT (bC 17 a s2 (bgA a (mN M) j (nW M 28 9))) (mN M) = 28 ∧ mL (bC 17 a s2 (bgA a (mN M) j (nW M 28 9))) (mN M) = 9 ∧ mR (bC 17 a s2 (bgA a (mN M) j (nW M 28 9))) a (bgR j + 1) = some (a + bgR j) ∧ mT (bC 17 a s2 (bgA a (mN M) j (nW M 28 9))) (a + bgR j) = 20 := fun j hj => by
    obtain ⟨r1, r2, -⟩ := bgR_1 j hj
    exact ⟨(tN j).1, (tN j).2, ((LA j).2.2.1 (bgR j) (by omega) (by omega)).2.2, ((LA j).2.2.1 (bgR j) (by omega) (by omega)).1⟩
  have wst : ∀ j, wR (bC 17 a s2 (bgA a (mN M) j (nW M 28 9))) (mN M) j (some (a + bgR j)) = bC 17 a s2 (bgA a (mN M) (j + 1) (nW M 28 9)) := fun j => rfl
  have i9 : ∀ j, j < 9 → inb (nI j) 9 := fun j hj => (inbN (by omega)).mpr hj
  have N0 : mN (bC 17 a s2 M) = mN M := rfl
  unfold f_X12_begin b_X12_begin_0
  rw [ck_t (q_T L), dr_s (q_R18 L), ck_t (q_Tm L), dr_s (q_Rm L), ck_t (q_Tt L), show mR (bC 17 a st M) t 2 = some (t + 2) from L.2.2.2.2 2 (by decide) (by decide), show mR (bC 17 a st M) a 2 = some (a + 1) from (L.2.2.1 1 (by decide) (by decide)).2.2, c1, bd_S, ck_t (q_T L), dr_s (q_R18 L), ck_t (q_Tm L), dr_s (q_Rm L), ck_t (q_Tt L), show mR (bC 17 a (up1 st 1 (va_cpy (mI M (t + 2)) (st 1) 0 0 40)) M) t 5 = some (t + 3) from L.2.2.2.2 5 (by decide) (by decide), show mR (bC 17 a (up1 st 1 (va_cpy (mI M (t + 2)) (st 1) 0 0 40)) M) a 5 = some (a + 4) from (L.2.2.1 4 (by decide) (by decide)).2.2, c2, bd_S, N0, show ((9 : Int32)).toNatClampNeg = 9 from rfl, nW_bC ha, lw_S]
  rw [ck_t (show mT (bC 17 a s2 (nW M 28 9)) a = 11 from (LA 0).1.1)]
  rw [ck_t (show mT (bC 17 a s2 (nW M 28 9)) (mN M) = 28 from (stg 0 (by decide)).1)]
  rw [show mL (bC 17 a s2 (nW M 28 9)) (mN M) = 9 from (stg 0 (by decide)).2.1, ck_t (show inb (0 : Int32) 9 from i9 0 (by decide)), show mR (bC 17 a s2 (nW M 28 9)) a 3 = some (a + 2) from (stg 0 (by decide)).2.2.1, dr_S, ck_t (show mT (bC 17 a s2 (nW M 28 9)) (a + 2) = 20 from (stg 0 (by decide)).2.2.2), show ((0 : Int32)).toNatClampNeg = 0 from rfl, lw_S, show wR (bC 17 a s2 (nW M 28 9)) (mN M) 0 (some (a + 2)) = bC 17 a s2 (bgA a (mN M) 1 (nW M 28 9)) from rfl]
  rw [show mL (bC 17 a s2 (bgA a (mN M) 1 (nW M 28 9))) (mN M) = 9 from (stg 1 (by decide)).2.1, ck_t (show inb (1 : Int32) 9 from i9 1 (by decide)), show mR (bC 17 a s2 (bgA a (mN M) 1 (nW M 28 9))) a 4 = some (a + 3) from (stg 1 (by decide)).2.2.1, dr_S, ck_t (show mT (bC 17 a s2 (bgA a (mN M) 1 (nW M 28 9))) (a + 3) = 20 from (stg 1 (by decide)).2.2.2), show ((1 : Int32)).toNatClampNeg = 1 from rfl, lw_S, show wR (bC 17 a s2 (bgA a (mN M) 1 (nW M 28 9))) (mN M) 1 (some (a + 3)) = bC 17 a s2 (bgA a (mN M) 2 (nW M 28 9)) from rfl]
  rw [show mL (bC 17 a s2 (bgA a (mN M) 2 (nW M 28 9))) (mN M) = 9 from (stg 2 (by decide)).2.1, ck_t (show inb (2 : Int32) 9 from i9 2 (by decide)), show mR (bC 17 a s2 (bgA a (mN M) 2 (nW M 28 9))) a 6 = some (a + 5) from (stg 2 (by decide)).2.2.1, dr_S, ck_t (show mT (bC 17 a s2 (bgA a (mN M) 2 (nW M 28 9))) (a + 5) = 20 from (stg 2 (by decide)).2.2.2), show ((2 : Int32)).toNatClampNeg = 2 from rfl, lw_S, show wR (bC 17 a s2 (bgA a (mN M) 2 (nW M 28 9))) (mN M) 2 (some (a + 5)) = bC 17 a s2 (bgA a (mN M) 3 (nW M 28 9)) from rfl]
  rw [show mL (bC 17 a s2 (bgA a (mN M) 3 (nW M 28 9))) (mN M) = 9 from (stg 3 (by decide)).2.1, ck_t (show inb (3 : Int32) 9 from i9 3 (by decide)), show mR (bC 17 a s2 (bgA a (mN M) 3 (nW M 28 9))) a 7 = some (a + 6) from (stg 3 (by decide)).2.2.1, dr_S, ck_t (show mT (bC 17 a s2 (bgA a (mN M) 3 (nW M 28 9))) (a + 6) = 20 from (stg 3 (by decide)).2.2.2), show ((3 : Int32)).toNatClampNeg = 3 from rfl, lw_S, show wR (bC 17 a s2 (bgA a (mN M) 3 (nW M 28 9))) (mN M) 3 (some (a + 6)) = bC 17 a s2 (bgA a (mN M) 4 (nW M 28 9)) from rfl]
  rw [show mL (bC 17 a s2 (bgA a (mN M) 4 (nW M 28 9))) (mN M) = 9 from (stg 4 (by decide)).2.1, ck_t (show inb (4 : Int32) 9 from i9 4 (by decide)), show mR (bC 17 a s2 (bgA a (mN M) 4 (nW M 28 9))) a 9 = some (a + 8) from (stg 4 (by decide)).2.2.1, dr_S, ck_t (show mT (bC 17 a s2 (bgA a (mN M) 4 (nW M 28 9))) (a + 8) = 20 from (stg 4 (by decide)).2.2.2), show ((4 : Int32)).toNatClampNeg = 4 from rfl, lw_S, show wR (bC 17 a s2 (bgA a (mN M) 4 (nW M 28 9))) (mN M) 4 (some (a + 8)) = bC 17 a s2 (bgA a (mN M) 5 (nW M 28 9)) from rfl]
  rw [show mL (bC 17 a s2 (bgA a (mN M) 5 (nW M 28 9))) (mN M) = 9 from (stg 5 (by decide)).2.1, ck_t (show inb (5 : Int32) 9 from i9 5 (by decide)), show mR (bC 17 a s2 (bgA a (mN M) 5 (nW M 28 9))) a 10 = some (a + 9) from (stg 5 (by decide)).2.2.1, dr_S, ck_t (show mT (bC 17 a s2 (bgA a (mN M) 5 (nW M 28 9))) (a + 9) = 20 from (stg 5 (by decide)).2.2.2), show ((5 : Int32)).toNatClampNeg = 5 from rfl, lw_S, show wR (bC 17 a s2 (bgA a (mN M) 5 (nW M 28 9))) (mN M) 5 (some (a + 9)) = bC 17 a s2 (bgA a (mN M) 6 (nW M 28 9)) from rfl]
  rw [show mL (bC 17 a s2 (bgA a (mN M) 6 (nW M 28 9))) (mN M) = 9 from (stg 6 (by decide)).2.1, ck_t (show inb (6 : Int32) 9 from i9 6 (by decide)), show mR (bC 17 a s2 (bgA a (mN M) 6 (nW M 28 9))) a 11 = some (a + 10) from (stg 6 (by decide)).2.2.1, dr_S, ck_t (show mT (bC 17 a s2 (bgA a (mN M) 6 (nW M 28 9))) (a + 10) = 20 from (stg 6 (by decide)).2.2.2), show ((6 : Int32)).toNatClampNeg = 6 from rfl, lw_S, show wR (bC 17 a s2 (bgA a (mN M) 6 (nW M 28 9))) (mN M) 6 (some (a + 10)) = bC 17 a s2 (bgA a (mN M) 7 (nW M 28 9)) from rfl]
  rw [show mL (bC 17 a s2 (bgA a (mN M) 7 (nW M 28 9))) (mN M) = 9 from (stg 7 (by decide)).2.1, ck_t (show inb (7 : Int32) 9 from i9 7 (by decide)), show mR (bC 17 a s2 (bgA a (mN M) 7 (nW M 28 9))) a 12 = some (a + 11) from (stg 7 (by decide)).2.2.1, dr_S, ck_t (show mT (bC 17 a s2 (bgA a (mN M) 7 (nW M 28 9))) (a + 11) = 20 from (stg 7 (by decide)).2.2.2), show ((7 : Int32)).toNatClampNeg = 7 from rfl, lw_S, show wR (bC 17 a s2 (bgA a (mN M) 7 (nW M 28 9))) (mN M) 7 (some (a + 11)) = bC 17 a s2 (bgA a (mN M) 8 (nW M 28 9)) from rfl]
  rw [show mL (bC 17 a s2 (bgA a (mN M) 8 (nW M 28 9))) (mN M) = 9 from (stg 8 (by decide)).2.1, ck_t (show inb (8 : Int32) 9 from i9 8 (by decide)), show mR (bC 17 a s2 (bgA a (mN M) 8 (nW M 28 9))) a 13 = some (a + 12) from (stg 8 (by decide)).2.2.1, dr_S, ck_t (show mT (bC 17 a s2 (bgA a (mN M) 8 (nW M 28 9))) (a + 12) = 20 from (stg 8 (by decide)).2.2.2), show ((8 : Int32)).toNatClampNeg = 8 from rfl, lw_S, show wR (bC 17 a s2 (bgA a (mN M) 8 (nW M 28 9))) (mN M) 8 (some (a + 12)) = bC 17 a s2 (bgA a (mN M) 9 (nW M 28 9)) from rfl]
  rw [show mL (bC 17 a s2 (bgA a (mN M) 9 (nW M 28 9))) (mN M) = 9 from (tN 9).2]
  exact e
