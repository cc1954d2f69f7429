/-! ## Pure: a net's haul -/
theorem imin_nI {a b : Nat} (ha : a < 2 ^ 31) (hb : b < 2 ^ 31) : imin (nI a) (nI b) = nI (min a b) := by
  unfold imin
  by_cases c : b < a
  · rw [if_pos ((nI_ltI hb ha).mpr c), Nat.min_eq_right (Nat.le_of_lt c)]
  · rw [if_neg (fun z => c ((nI_ltI hb ha).mp z)), Nat.min_eq_left (Nat.le_of_not_lt c)]
theorem up2_up1s {α : Type} (sg : Nat → Nat → α) (d s : Nat) (r : Nat → α) (v : α) : up2 (up1 sg d r) d s v = up1 sg d (up1 r s v) := by
  funext b j
  by_cases hb : b = d
  · subst hb; simp [up1, up2]
  · simp [up1, up2, hb]
/-- one size: what is taken of it, how many are caught, their weight, whether the net is torn -/
def hl1 (fk : Nat → Nat) (h w s : Nat) (q : (Nat → Nat) × Nat × Nat × Nat) : (Nat → Nat) × Nat × Nat × Nat :=
  (up1 q.1 s (min (min (fk s) (h - q.2.1)) ((w - q.2.2.1) / s)), q.2.1 + min (min (fk s) (h - q.2.1)) ((w - q.2.2.1) / s), q.2.2.1 + min (min (fk s) (h - q.2.1)) ((w - q.2.2.1) / s) * s, if min (fk s) (h - q.2.1) ≤ (w - q.2.2.1) / s then 0 else 1)
/-- j sizes from 5 down -/
def hlN (fk : Nat → Nat) (h w m : Nat) : Nat → (Nat → Nat) × Nat × Nat × Nat
  | 0 => (fun _ => 0, 0, 0, 0)
  | j + 1 => if m ≤ 5 - j ∧ (hlN fk h w m j).2.2.2 = 0 then hl1 fk h w (5 - j) (hlN fk h w m j) else hlN fk h w m j
theorem hlN_b {fk : Nat → Nat} {h w m : Nat} : ∀ j, (hlN fk h w m j).2.1 ≤ h ∧ (hlN fk h w m j).2.2.1 ≤ w ∧ (hlN fk h w m j).2.2.2 ≤ 1 ∧ (∀ s, 1 ≤ s → s ≤ 5 - j → (hlN fk h w m j).1 s = 0) ∧ (∀ s, s < m → (hlN fk h w m j).1 s = 0) ∧ ∀ s, (hlN fk h w m j).1 s ≤ fk s ∧ (hlN fk h w m j).1 s ≤ h
  | 0 => by simp [hlN]
  | j + 1 => by
    obtain ⟨h1, h2, h3, h4, h5, h6⟩ := hlN_b (fk := fk) (h := h) (w := w) (m := m) j
    unfold hlN
    by_cases c : m ≤ 5 - j ∧ (hlN fk h w m j).2.2.2 = 0
    · rw [if_pos c]
      unfold hl1
      generalize hlN fk h w m j = q at h1 h2 h3 h4 h5 h6 c
      obtain ⟨r, k, x, t⟩ := q
      simp only at h1 h2 h3 h4 h5 h6 c ⊢
      have e1 : min (min (fk (5 - j)) (h - k)) ((w - x) / (5 - j)) ≤ h - k := Nat.le_trans (Nat.min_le_left _ _) (Nat.min_le_right _ _)
      have e2 : min (min (fk (5 - j)) (h - k)) ((w - x) / (5 - j)) * (5 - j) ≤ w - x := Nat.le_trans (Nat.mul_le_mul_right _ (Nat.min_le_right _ _)) (Nat.div_mul_le_self _ _)
      have e3 : min (min (fk (5 - j)) (h - k)) ((w - x) / (5 - j)) ≤ fk (5 - j) := Nat.le_trans (Nat.min_le_left _ _) (Nat.min_le_left _ _)
      generalize min (min (fk (5 - j)) (h - k)) ((w - x) / (5 - j)) = v at e1 e2 e3
      generalize v * (5 - j) = y at e2
      refine ⟨by omega, by omega, by split <;> omega, fun s hs1 hs => ?_, fun s hs => ?_, fun s => ?_⟩
      · by_cases hz : s = 5 - j
        · omega
        · rw [up1_o hz]; exact h4 s hs1 (by omega)
      · rw [up1_o (by omega)]; exact h5 s hs
      · by_cases hz : s = 5 - j
        · subst hz; rw [up1_e]; omega
        · rw [up1_o hz]; exact h6 s
    · rw [if_neg c]
      exact ⟨h1, h2, h3, fun s hs1 hs => h4 s hs1 (by omega), h5, h6⟩
theorem hlN_s {fk : Nat → Nat} {h w m : Nat} {j s : Nat} (hs : s ≠ 5 - j) : (hlN fk h w m (j + 1)).1 s = (hlN fk h w m j).1 s := by
  rw [hlN]
  by_cases c : m ≤ 5 - j ∧ (hlN fk h w m j).2.2.2 = 0
  · rw [if_pos c]; exact up1_o hs
  · rw [if_neg c]
/-- the row of the net behind j sizes -/
def hrA (r : Nat → Int32) (hl : Nat → Nat) (j : Nat) : Nat → Int32 := fun s => if 5 - j < s ∧ s ≤ 5 then nI (hl s) else r s
theorem s7_hlA {M : gMem} {o g f m c x t s : Nat} {r : Nat → Int32} {sg : Nat → Nat → Int32} (L : LC o M) (hs1 : 1 ≤ s) (hs : s ≤ 5) (hm : m < 100) (ht : t ≤ 1) (hn : ¬ (m ≤ s ∧ t = 0)) : bb_X7_haulFrom_17 (sC o (up1 sg 11 r) M) o (some (o + (18 + 2 * g))) (some (o + (34 + 2 * f))) (nI m) (nI c) (nI x) (nI t) (nI s) = some (.inl (sC o (up1 sg 11 (up1 r s (nI 0))) M, nI c, nI x, nI t, nI (s - 1))) := by
  have hs0 : ¬ s < 1 := by omega
  have hs6 : s < 6 := by omega
  by_cases c1 : s < m
  · simp (disch := first | assumption | omega) [bb_X7_haulFrom_17, b_X7_haulFrom_133, lit, nI_leI, nI_ltI, ck_T, ck_t, dr_S, lw_S, bd_S, oI_S, inbN, nI_clamp, nI_add, sC_I0, sC_I, sC_W0, sC_W, cT0, cR0_13, cT11, cL11, up2_up1s, nI_dn, c1, hs0, hs6]
  · have c2 : t = 1 := by omega
    subst c2
    have e1 : ¬ nI 1 = nI 0 := by decide
    simp (disch := first | assumption | omega) [bb_X7_haulFrom_17, b_X7_haulFrom_133, lit, nI_leI, nI_ltI, ck_T, ck_t, dr_S, lw_S, bd_S, oI_S, inbN, nI_clamp, nI_add, sC_I0, sC_I, sC_W0, sC_W, cT0, cR0_13, cT11, cL11, up2_up1s, nI_dn, c1, hs0, hs6, e1]
theorem s7_hlB {M : gMem} {o g f m h w c x s n : Nat} {r : Nat → Int32} {sg : Nat → Nat → Int32} (L : LC o M) (hg : g < 8) (hf : f < 8) (hs1 : 1 ≤ s) (hs : s ≤ 5) (hm : m < 100) (hn : n < 100) (en : sg (19 + 2 * g) s = nI n) (hh : h < 100) (eh : sg (34 + 2 * f) 3 = nI h) (hw : w < 100) (ew : sg (34 + 2 * f) 2 = nI w) (hc : c ≤ h) (hx : x ≤ w) (hms : m ≤ s) : bb_X7_haulFrom_17 (sC o (up1 sg 11 r) M) o (some (o + (18 + 2 * g))) (some (o + (34 + 2 * f))) (nI m) (nI c) (nI x) (nI 0) (nI s) = some (.inl (sC o (up1 sg 11 (up1 r s (nI (min (min n (h - c)) ((w - x) / s))))) M, nI (c + min (min n (h - c)) ((w - x) / s)), nI (x + min (min n (h - c)) ((w - x) / s) * s), (if min n (h - c) ≤ (w - x) / s then nI 0 else nI 1), nI (s - 1))) := by
  have hs0 : ¬ s < 1 := by omega
  have hs6 : s < 6 := by omega
  have c1 : ¬ s < m := by omega
  have hsz : ¬ nI s = nI 0 := nI_ne0 (by omega) (by omega)
  have hwa : min n (h - c) < 2 ^ 31 := by omega
  have hca : (w - x) / s < 2 ^ 31 := Nat.lt_of_le_of_lt (Nat.div_le_self _ _) (by omega)
  have ea : imin (nI n) (nI h - nI c) = nI (min n (h - c)) := by rw [nI_sub hc, imin_nI (by omega) (by omega)]
  have eb : (nI w - nI x) / nI s = nI ((w - x) / s) := by rw [nI_sub hx, nI_div (by omega) (by omega)]
  have o1 : 19 + 2 * g ≠ 11 := by omega
  have o2 : 34 + 2 * f ≠ 11 := by omega
  generalize min n (h - c) = wa at ea hwa ⊢
  generalize (w - x) / s = ca at eb hca ⊢
  by_cases c3 : wa ≤ ca
  · rw [if_pos c3, Nat.min_eq_left c3]
    simp (disch := first | assumption | omega) [bb_X7_haulFrom_17, b_X7_haulFrom_133, b_X7_haulFrom_85, b_X7_haulFrom_105, lit, nI_leI, nI_ltI, ck_T, ck_t, dr_S, lw_S, bd_S, oI_S, inbN, nI_clamp, nI_add, sC_I0, sC_I, sC_W0, sC_W, cT0, cR0_13, cT11, cL11, cTg, cRg, cTgf, cLgf, cTf, up2_up1s, up1_up1, up1_e, up1_o, nI_dn, nI_mul, c1, hs0, hs6, hsz, en, eh, ew, ea, eb, c3]
  · rw [if_neg c3, Nat.min_eq_right (by omega)]
    have e1 : ¬ nI 1 = nI 0 := by decide
    simp (disch := first | assumption | omega) [bb_X7_haulFrom_17, b_X7_haulFrom_133, b_X7_haulFrom_85, b_X7_haulFrom_105, lit, nI_leI, nI_ltI, ck_T, ck_t, dr_S, lw_S, bd_S, oI_S, inbN, nI_clamp, nI_add, sC_I0, sC_I, sC_W0, sC_W, cT0, cR0_13, cT11, cL11, cTg, cRg, cTgf, cLgf, cTf, up2_up1s, up1_up1, up1_e, up1_o, nI_dn, nI_mul, c1, hs0, hs6, hsz, en, eh, ew, ea, eb, c3, e1]
theorem s1_tear {M : gMem} {o f : Nat} {sg : Nat → Nat → Int32} (L : LC o M) (hf : f < 8) : f_X1_tear (sC o sg M) (o + (34 + 2 * f)) = some ((), sC o (up2 (up2 sg (34 + 2 * f) 1 (imin (sg (34 + 2 * f) 1 + nI 1) (nI 6))) (34 + 2 * f) 7 (sg (34 + 2 * f) 7 + nI 1)) M) := by
  have e1 : up2 sg (34 + 2 * f) 1 (imin (sg (34 + 2 * f) 1 + nI 1) (nI 6)) (34 + 2 * f) 7 = sg (34 + 2 * f) 7 := up2_ne (by omega)
  unfold f_X1_tear b_X1_tear_0
  simp only [lit]
  rw [ck_t (cTf L hf), lw_S, sC_I (by omega), sC_W (by omega), lw_S, sC_I (by omega), sC_W (by omega), e1]
/-- the haul of the fisher f at the ground g -/
def hlA (A : Nat → Nat → Int32) (g f : Nat) : (Nat → Nat) × Nat × Nat × Nat := hlN (fun s => (A (19 + 2 * g) s).toNatClampNeg) (A (34 + 2 * f) 3).toNatClampNeg (A (34 + 2 * f) 2).toNatClampNeg (A (34 + 2 * f) 1).toNatClampNeg 5
def tearA (A : Nat → Nat → Int32) (f : Nat) : Nat → Nat → Int32 := up2 (up2 A (34 + 2 * f) 1 (imin (A (34 + 2 * f) 1 + nI 1) (nI 6))) (34 + 2 * f) 7 (A (34 + 2 * f) 7 + nI 1)
/-- the fish of a ground and the numbers of a fisher are in their bounds -/
def okG (A : Nat → Nat → Int32) (g : Nat) : Prop := ∀ s, 1 ≤ s → s ≤ 5 → ∃ n, n ≤ 99 ∧ A (19 + 2 * g) s = nI n
def okF (A : Nat → Nat → Int32) (f : Nat) : Prop := (∃ m, 1 ≤ m ∧ m ≤ 6 ∧ A (34 + 2 * f) 1 = nI m) ∧ (∃ w, w ≤ 99 ∧ A (34 + 2 * f) 2 = nI w) ∧ ∃ h, h ≤ 40 ∧ A (34 + 2 * f) 3 = nI h
theorem s7_haulFrom {M : gMem} {o g f : Nat} {sg : Nat → Nat → Int32} (L : LC o M) (hg : g < 8) (hf : f < 8) (G : okG sg g) (F : okF sg f) : ∃ r, (∀ s, 1 ≤ s → s ≤ 5 → r s = nI ((hlA sg g f).1 s)) ∧ f_X7_haulFrom (sC o sg M) o (some (o + (18 + 2 * g))) (some (o + (34 + 2 * f))) = some ((), sC o (if (hlA sg g f).2.2.2 = 0 then up1 sg 11 r else tearA (up1 sg 11 r) f) M) := by
  obtain ⟨⟨m, hm1, hm, em⟩, ⟨w, hw, ew⟩, h, hh, eh⟩ := F
  have hlE : hlA sg g f = hlN (fun s => (sg (19 + 2 * g) s).toNatClampNeg) h w m 5 := by
    unfold hlA
    rw [em, ew, eh, nI_clamp (by omega), nI_clamp (by omega), nI_clamp (by omega)]
  rw [hlE]
  obtain ⟨fk, hfk⟩ : ∃ fk : Nat → Nat, fk = fun s => (sg (19 + 2 * g) s).toNatClampNeg := ⟨_, rfl⟩
  have hfe : ∀ s, 1 ≤ s → s ≤ 5 → fk s ≤ 99 ∧ sg (19 + 2 * g) s = nI (fk s) := by
    intro s h1 h2
    obtain ⟨n, hn, en⟩ := G s h1 h2
    rw [hfk]
    simp only
    rw [en, nI_clamp (by omega)]
    exact ⟨hn, rfl⟩
  rw [← hfk]
  have key : ∀ j, j < 5 → bb_X7_haulFrom_17 (sC o (up1 sg 11 (hrA (sg 11) (hlN fk h w m j).1 j)) M) o (some (o + (18 + 2 * g))) (some (o + (34 + 2 * f))) (nI m) (nI (hlN fk h w m j).2.1) (nI (hlN fk h w m j).2.2.1) (nI (hlN fk h w m j).2.2.2) (nI (5 - j)) = some (.inl (sC o (up1 sg 11 (hrA (sg 11) (hlN fk h w m (j + 1)).1 (j + 1))) M, nI (hlN fk h w m (j + 1)).2.1, nI (hlN fk h w m (j + 1)).2.2.1, nI (hlN fk h w m (j + 1)).2.2.2, nI (5 - (j + 1)))) := by
    intro j hj
    obtain ⟨b1, b2, b3, b4, _, _⟩ := hlN_b (fk := fk) (h := h) (w := w) (m := m) j
    have er : ∀ v, (hlN fk h w m (j + 1)).1 (5 - j) = v → up1 (hrA (sg 11) (hlN fk h w m j).1 j) (5 - j) (nI v) = hrA (sg 11) (hlN fk h w m (j + 1)).1 (j + 1) := by
      intro v hv
      funext s
      by_cases hs : s = 5 - j
      · subst hs
        have q : 5 - (j + 1) < 5 - j ∧ 5 - j ≤ 5 := by omega
        simp only [up1_e, hrA, if_pos q, hv]
      · rw [up1_o hs]
        unfold hrA
        rw [hlN_s hs]
        by_cases q : 5 - j < s ∧ s ≤ 5
        · rw [if_pos q, if_pos (by omega)]
        · rw [if_neg q, if_neg (by omega)]
    have e5 : 5 - (j + 1) = 5 - j - 1 := by omega
    by_cases c : m ≤ 5 - j ∧ (hlN fk h w m j).2.2.2 = 0
    · have hq : hlN fk h w m (j + 1) = hl1 fk h w (5 - j) (hlN fk h w m j) := by rw [hlN, if_pos c]
      have ez := er _ rfl
      rw [hq] at ez ⊢
      have := s7_hlB (M := M) (r := hrA (sg 11) (hlN fk h w m j).1 j) L hg hf (show 1 ≤ 5 - j by omega) (by omega) (show m < 100 by omega) (Nat.lt_succ_of_le (hfe (5 - j) (by omega) (by omega)).1) (hfe (5 - j) (by omega) (by omega)).2 (show h < 100 by omega) eh (show w < 100 by omega) ew b1 b2 c.1
      rw [c.2, this, e5, ← ez]
      unfold hl1
      simp only [up1_e]
      by_cases c3 : min (fk (5 - j)) (h - (hlN fk h w m j).2.1) ≤ (w - (hlN fk h w m j).2.2.1) / (5 - j)
      · rw [if_pos c3, if_pos c3]
      · rw [if_neg c3, if_neg c3]
    · have hq : hlN fk h w m (j + 1) = hlN fk h w m j := by rw [hlN, if_neg c]
      have ez := er 0 (by rw [hq]; exact b4 _ (by omega) (Nat.le_refl _))
      rw [hq] at ez ⊢
      have := s7_hlA (M := M) (g := g) (f := f) (c := (hlN fk h w m j).2.1) (x := (hlN fk h w m j).2.2.1) (sg := sg) (r := hrA (sg 11) (hlN fk h w m j).1 j) L (show 1 ≤ 5 - j by omega) (by omega) (show m < 100 by omega) b3 c
      rw [this, e5, ← ez]
  refine ⟨hrA (sg 11) (hlN fk h w m 5).1 5, fun s h1 h2 => if_pos (by omega), ?_⟩
  have e0 : up1 sg 11 (hrA (sg 11) (hlN fk h w m 0).1 0) = sg := by
    funext d k
    by_cases hd : d = 11
    · subst hd
      rw [up1_e]
      exact if_neg (by omega)
    · rw [up1_o hd]
  unfold f_X7_haulFrom b_X7_haulFrom_0
  rw [dr_S, ck_t (cTf L hf), sC_I (by omega), em]
  have := lp_seq (f := fun (q : gMem × Int32 × Int32 × Int32 × Int32) => bb_X7_haulFrom_17 q.1 o (some (o + (18 + 2 * g))) (some (o + (34 + 2 * f))) (nI m) q.2.1 q.2.2.1 q.2.2.2.1 q.2.2.2.2) (fun j => (sC o (up1 sg 11 (hrA (sg 11) (hlN fk h w m j).1 j)) M, nI (hlN fk h w m j).2.1, nI (hlN fk h w m j).2.2.1, nI (hlN fk h w m j).2.2.2, nI (5 - j))) 0 5 (b := ((), sC o (if (hlN fk h w m 5).2.2.2 = 0 then up1 sg 11 (hrA (sg 11) (hlN fk h w m 5).1 5) else tearA (up1 sg 11 (hrA (sg 11) (hlN fk h w m 5).1 5)) f) M)) (by omega) (fun j _ hj => key j hj) ?_
  · rw [e0] at this
    exact this
  · show bb_X7_haulFrom_17 (sC o (up1 sg 11 (hrA (sg 11) (hlN fk h w m 5).1 5)) M) o (some (o + (18 + 2 * g))) (some (o + (34 + 2 * f))) (nI m) (nI (hlN fk h w m 5).2.1) (nI (hlN fk h w m 5).2.2.1) (nI (hlN fk h w m 5).2.2.2) (nI 0) = _
    unfold bb_X7_haulFrom_17
    have q1 : nI 0 < (1 : Int32) := by decide
    have b3 := (hlN_b (fk := fk) (h := h) (w := w) (m := m) 5).2.2.1
    rw [if_pos q1]
    by_cases c : (hlN fk h w m 5).2.2.2 = 0
    · have q0 : nI 0 = (0 : Int32) := rfl
      rw [if_pos c, c, if_pos q0]
      rfl
    · have e1 : ¬ nI 1 = 0 := by decide
      rw [if_neg c, show (hlN fk h w m 5).2.2.2 = 1 by omega, if_neg e1, dr_S, ck_t (cTf L hf), s1_tear L hf, bd_S]
      rfl

