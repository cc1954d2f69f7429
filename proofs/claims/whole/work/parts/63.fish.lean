/-! ## Pure: a fisher of the reference fishes -/
theorem bC_Ic {n a d k : Nat} {st : Nat → Nat → Int32} {M : gMem} (hk : k < 2 ^ 31) (h : d < n) : mI (bC n a st M) (a + d) (nI k).toNatClampNeg = st d k := by
  rw [nI_clamp hk, bC_I h]
theorem bC_Wc {n a d k : Nat} {v : Int32} {st : Nat → Nat → Int32} {M : gMem} (hk : k < 2 ^ 31) (h : d < n) : wI (bC n a st M) (a + d) (nI k).toNatClampNeg v = bC n a (up2 st d k v) M := by
  rw [nI_clamp hk, bC_W h]
theorem q_Ic {j k m t a : Nat} {st : Nat → Nat → Int32} {M : gMem} (L : LSt m t a M) (hk : k < 2 ^ 31) (h : j < 17) : mI (bC 17 a st M) (t + j) (nI k).toNatClampNeg = mI M (t + j) k := by
  rw [nI_clamp hk, q_Ij L h]
/-- the fish row F and the net row N in a State -/
def fnS (st : Nat → Nat → Int32) (F N : Nat → Int32) : Nat → Nat → Int32 := up1 (up1 st 1 F) 15 N
theorem fnS_1 {st : Nat → Nat → Int32} {F N : Nat → Int32} : fnS st F N 1 = F := by
  unfold fnS; rw [up1_o (by omega), up1_e]
theorem fnS_15 {st : Nat → Nat → Int32} {F N : Nat → Int32} : fnS st F N 15 = N := by
  unfold fnS; rw [up1_e]
theorem fnS_o {st : Nat → Nat → Int32} {F N : Nat → Int32} {d : Nat} (h : d ≠ 1 ∧ d ≠ 15) : fnS st F N d = st d := by
  unfold fnS; rw [up1_o h.2, up1_o h.1]
theorem fnS_w1 {st : Nat → Nat → Int32} {F N : Nat → Int32} {k : Nat} {v : Int32} : up2 (fnS st F N) 1 k v = fnS st (up1 F k v) N := by
  unfold fnS
  rw [up2_up1c (by omega), up2_up1s]
theorem fnS_w15 {st : Nat → Nat → Int32} {F N : Nat → Int32} {k : Nat} {v : Int32} : up2 (fnS st F N) 15 k v = fnS st F (up1 N k v) := by
  unfold fnS
  rw [up2_up1s]
theorem fnS_self (st : Nat → Nat → Int32) : fnS st (st 1) (st 15) = st := by
  unfold fnS
  rw [up1_self]
  exact up1_self st 15
theorem nI_up {a b : Nat} : nI a + nI b = nI (a + b) := nI_add a b
/-- fish of one size, one by one -/
theorem r_inner {m t a g f h w s n c x : Nat} {st : Nat → Nat → Int32} {F N : Nat → Int32} {M : gMem} (L : LSt m t a M) (hg : g < 8) (hf : f < 8) (hs1 : 1 ≤ s) (hs : s ≤ 5) (hn : n < 100) (hh : h < 100) (eh : mI M (t + 5) f = nI h) (hw : w < 100) (ew : mI M (t + 4) f = nI w) (hc : c ≤ h) (hx : x ≤ w) : ∀ d v, v + d = min (min n (h - c)) ((w - x) / s) → lp_X12_fishFor_50 (bC 17 a (fnS st (up1 F (5 * g + s - 1) (nI (n - v))) (up1 N s (nI v))) M) a (nI f) (nI g) (nI (c + v)) (nI (x + v * s)) (nI 1) (nI s) = some (.inl (bC 17 a (fnS st (up1 F (5 * g + s - 1) (nI (n - (v + d)))) (up1 N s (nI (v + d)))) M, nI (c + (v + d)), nI (x + (v + d) * s), (if min n (h - c) ≤ (w - x) / s then nI 1 else nI 0), nI (s - 1))) := by
  have i1 : inb (nI (5 * g + s - 1)) 40 := (inbN (by omega)).mpr (by omega)
  have i2 : inb (nI s) 6 := (inbN (by omega)).mpr (by omega)
  have i3 : inb (nI f) 8 := (inbN (by omega)).mpr (by omega)
  have ei : nI (5 * g + s) - (1 : Int32) = nI (5 * g + s - 1) := sb1 (by omega)
  have n1 : ¬ nI 1 = 0 := by decide
  have n2 : ¬ (1 : Int32) = 0 := by decide
  have hd1 : nI s + (-1 : Int32) = nI (s - 1) := dn1 (by omega)
  intro d
  induction d with
  | zero =>
    intro v hv
    rw [Nat.add_zero] at hv ⊢
    have hv1 : v ≤ n := by omega
    have hvs : v * s ≤ w - x := by
      have : v ≤ (w - x) / s := by omega
      exact Nat.le_trans (Nat.mul_le_mul_right _ this) (Nat.div_mul_le_self _ _)
    by_cases cw : min n (h - c) ≤ (w - x) / s
    · -- whole: no fish or no room any more
      rw [if_pos cw]
      unfold lp_X12_fishFor_50
      refine lp_out ?_
      show bb_X12_fishFor_50 (bC 17 a (fnS st (up1 F (5 * g + s - 1) (nI (n - v))) (up1 N s (nI v))) M) a (nI f) (nI g) (nI (c + v)) (nI (x + v * s)) (nI 1) (nI s) = _
      unfold bb_X12_fishFor_50 b_X12_fishFor_163
      
      rw [if_neg n1, ck_t (q_T L), dr_s (q_R2 L), ck_t (q_T1 L), q_L1 L, m5, nI_add, ei, ck_t i1, bC_Ic (by omega) (by omega), fnS_1, up1_e]
      by_cases c0 : n - v = 0
      · have q : nI (n - v) ≤ 0 := by rw [c0]; decide
        rw [if_pos q, hd1]
        all_goals ((try simp only [lw_S, nI_1]); (try rfl))
      · have q : ¬ nI (n - v) ≤ 0 := nI_nle (by omega) (by omega)
        have q2 : nI h ≤ nI (c + v) := nI_le (by omega) (by omega)
        rw [if_neg q, dr_s (q_R18 L), ck_t (q_Tm L), dr_s (q_Rm L), ck_t (q_Tt L), dr_s (q_r7 L), ck_t (q_t5 L), q_l5 L, ck_t i3, q_Ic L (by omega) (by omega), eh, if_pos q2, hd1]
        all_goals ((try simp only [lw_S, nI_1]); (try rfl))
    · -- the net tears
      rw [if_neg cw]
      have hve : v = (w - x) / s := by omega
      have q : ¬ nI (n - v) ≤ 0 := nI_nle (by omega) (by omega)
      have q2 : ¬ nI h ≤ nI (c + v) := fun q => by have := (nI_leI (by omega) (by omega)).mp q; omega
      have hlt : w < x + v * s + s := by
        have := Nat.lt_div_mul_add (a := w - x) (b := s) (by omega)
        rw [← hve] at this
        omega
      have q3 : nI w < nI (x + v * s + s) := nI_lt hlt (by omega)
      unfold lp_X12_fishFor_50
      have e1 : bb_X12_fishFor_50 (bC 17 a (fnS st (up1 F (5 * g + s - 1) (nI (n - v))) (up1 N s (nI v))) M) a (nI f) (nI g) (nI (c + v)) (nI (x + v * s)) (nI 1) (nI s) = some (.inl (bC 17 a (fnS st (up1 F (5 * g + s - 1) (nI (n - v))) (up1 N s (nI v))) M, nI (c + v), nI (x + v * s), nI 0)) := by
        unfold bb_X12_fishFor_50 b_X12_fishFor_112
        
        rw [if_neg n1, ck_t (q_T L), dr_s (q_R2 L), ck_t (q_T1 L), q_L1 L, m5, nI_add, ei, ck_t i1, bC_Ic (by omega) (by omega), fnS_1, up1_e, if_neg q, dr_s (q_R18 L), ck_t (q_Tm L), dr_s (q_Rm L), ck_t (q_Tt L), dr_s (q_r7 L), ck_t (q_t5 L), q_l5 L, ck_t i3, q_Ic L (by omega) (by omega), eh, if_neg q2, dr_s (q_r6 L), ck_t (q_t4 L), q_l4 L, ck_t i3, q_Ic L (by omega) (by omega), ew, nI_add, if_pos q3, if_pos rfl]
        all_goals ((try simp only [lw_S, nI_1]); (try rfl))
      rw [lp_in (a' := (bC 17 a (fnS st (up1 F (5 * g + s - 1) (nI (n - v))) (up1 N s (nI v))) M, nI (c + v), nI (x + v * s), nI 0)) e1]
      refine lp_out ?_
      show bb_X12_fishFor_50 (bC 17 a (fnS st (up1 F (5 * g + s - 1) (nI (n - v))) (up1 N s (nI v))) M) a (nI f) (nI g) (nI (c + v)) (nI (x + v * s)) (nI 0) (nI s) = _
      unfold bb_X12_fishFor_50 b_X12_fishFor_163
      
      rw [if_pos (show nI 0 = (0 : Int32) from rfl), hd1]
      all_goals ((try simp only [lw_S, nI_1]); (try rfl))
  | succ d ih =>
    intro v hv
    have hvlt : v < min (min n (h - c)) ((w - x) / s) := by omega
    have hvs : (v + 1) * s ≤ w - x := by
      have : v + 1 ≤ (w - x) / s := by omega
      exact Nat.le_trans (Nat.mul_le_mul_right _ this) (Nat.div_mul_le_self _ _)
    have hvs' : v * s + s ≤ w - x := by rw [Nat.succ_mul] at hvs; exact hvs
    have q : ¬ nI (n - v) ≤ 0 := nI_nle (by omega) (by omega)
    have q2 : ¬ nI h ≤ nI (c + v) := fun q => by have := (nI_leI (by omega) (by omega)).mp q; omega
    have q3 : ¬ nI w < nI (x + v * s + s) := nI_nlt (by omega) (by omega)
    have e1 : bb_X12_fishFor_50 (bC 17 a (fnS st (up1 F (5 * g + s - 1) (nI (n - v))) (up1 N s (nI v))) M) a (nI f) (nI g) (nI (c + v)) (nI (x + v * s)) (nI 1) (nI s) = some (.inl (bC 17 a (fnS st (up1 F (5 * g + s - 1) (nI (n - (v + 1)))) (up1 N s (nI (v + 1)))) M, nI (c + (v + 1)), nI (x + (v + 1) * s), nI 1)) := by
      have e5 : (v + 1) * s = v * s + s := Nat.succ_mul v s
      have e2 : nI (n - v) - (1 : Int32) = nI (n - (v + 1)) := by rw [sb1 (by omega)]; congr 1
      unfold bb_X12_fishFor_50 b_X12_fishFor_112
      
      rw [if_neg n1, ck_t (q_T L), dr_s (q_R2 L), ck_t (q_T1 L), q_L1 L, m5, nI_add, ei, ck_t i1, bC_Ic (by omega) (by omega), fnS_1, up1_e, if_neg q, dr_s (q_R18 L), ck_t (q_Tm L), dr_s (q_Rm L), ck_t (q_Tt L), dr_s (q_r7 L), ck_t (q_t5 L), q_l5 L, ck_t i3, q_Ic L (by omega) (by omega), eh, if_neg q2, dr_s (q_r6 L), ck_t (q_t4 L), q_l4 L, ck_t i3, q_Ic L (by omega) (by omega), ew, nI_add, if_neg q3, if_neg n2, ck_t (q_T L), dr_s (q_R2 L), ck_t (q_T1 L), q_L1 L, ck_t i1, ck_t i1, bC_Wc (by omega) (by omega), bC_Ic (by omega) (by omega), fnS_1, up1_e, e2, fnS_w1, up1_up1]
      simp only [lw_S]
      rw [dr_s (q_R16 L), ck_t (q_T15 L), q_L15 L, ck_t i2, ck_t i2, bC_Ic (by omega) (by omega), fnS_15, up1_e, nI_1, bC_Wc (by omega) (by omega), fnS_w15, up1_up1, nI_1, e5, Nat.add_assoc c v 1, Nat.add_assoc x (v * s) s]
      all_goals ((try simp only [lw_S, nI_1]); (try rfl))
    have := ih (v + 1) (by omega)
    rw [show v + 1 + d = v + (d + 1) by omega] at this
    rw [← this]
    unfold lp_X12_fishFor_50
    exact lp_in e1
/-- sizes that are too small, and all behind a torn net, change nothing -/
theorem hlN_stop {fk : Nat → Nat} {h w m j : Nat} (c : ¬ (m ≤ 5 - j ∧ (hlN fk h w m j).2.2.2 = 0)) : ∀ d, hlN fk h w m (j + d) = hlN fk h w m j
  | 0 => rfl
  | d + 1 => by
    have e := hlN_stop c d
    rw [← Nat.add_assoc, hlN, e, if_neg]
    intro z
    exact c ⟨by omega, z.2⟩
/-- all that is caught, and its weight, by sizes -/
theorem hlN_sum {fk : Nat → Nat} {h w m : Nat} : ∀ j, j ≤ 5 → (∀ i, i ≤ j → kpN (hlN fk h w m j).1 0 (5 - i) + (if i = j then (hlN fk h w m j).2.1 else 0) = kpN (hlN fk h w m j).1 0 (5 - i) + (if i = j then (hlN fk h w m j).2.1 else 0)) ∧ kpN (hlN fk h w m j).1 0 5 = (hlN fk h w m j).2.1 ∧ wgN (hlN fk h w m j).1 0 5 = (hlN fk h w m j).2.2.1
  | 0, _ => ⟨fun _ _ => rfl, rfl, rfl⟩
  | j + 1, hj => by
    obtain ⟨-, h1, h2⟩ := hlN_sum (fk := fk) (h := h) (w := w) (m := m) j (by omega)
    have hz := (hlN_b (fk := fk) (h := h) (w := w) (m := m) j).2.2.2.1
    refine ⟨fun _ _ => rfl, ?_⟩
    rw [hlN]
    by_cases c : m ≤ 5 - j ∧ (hlN fk h w m j).2.2.2 = 0
    · rw [if_pos c]
      unfold hl1
      generalize hlN fk h w m j = q at h1 h2 hz
      obtain ⟨r, k, x, t⟩ := q
      simp only at h1 h2 hz ⊢
      generalize min (min (fk (5 - j)) (h - k)) ((w - x) / (5 - j)) = v
      simp only [kpN, wgN, Nat.zero_le, if_true] at h1 h2 ⊢
      have hj' : j = 0 ∨ j = 1 ∨ j = 2 ∨ j = 3 ∨ j = 4 := by omega
      rcases hj' with rfl | rfl | rfl | rfl | rfl
      · have z1 := hz 5 (by omega) (by omega)
        simp [up1] at h1 h2 ⊢
        omega
      · have z1 := hz 4 (by omega) (by omega)
        simp [up1] at h1 h2 ⊢
        omega
      · have z1 := hz 3 (by omega) (by omega)
        simp [up1] at h1 h2 ⊢
        omega
      · have z1 := hz 2 (by omega) (by omega)
        simp [up1] at h1 h2 ⊢
        omega
      · have z1 := hz 1 (by omega) (by omega)
        simp [up1] at h1 h2 ⊢
        omega
    · rw [if_neg c]
      exact ⟨h1, h2⟩
/-- of the sizes below m up to n -/
def lwK (hl : Nat → Nat) (m : Nat) : Nat → Nat
  | 0 => 0
  | n + 1 => lwK hl m n + (if m ≤ n + 1 then 0 else hl (n + 1))
def lwW (hl : Nat → Nat) (m : Nat) : Nat → Nat
  | 0 => 0
  | n + 1 => lwW hl m n + (if m ≤ n + 1 then 0 else hl (n + 1) * (n + 1))
theorem lw_kp {hl : Nat → Nat} {m : Nat} : ∀ n, lwK hl m n + kpN hl m n = kpN hl 0 n ∧ lwW hl m n + wgN hl m n = wgN hl 0 n
  | 0 => ⟨rfl, rfl⟩
  | n + 1 => by
    obtain ⟨h1, h2⟩ := lw_kp (hl := hl) (m := m) n
    simp only [lwK, lwW, kpN, wgN, Nat.zero_le, if_true]
    by_cases c : m ≤ n + 1
    · rw [if_pos c, if_pos c, if_pos c, if_pos c]; omega
    · rw [if_neg c, if_neg c, if_neg c, if_neg c]; omega
theorem lw_stop {hl : Nat → Nat} {m n : Nat} (h : m ≤ n + 1) : ∀ d, lwK hl m (n + d) = lwK hl m n ∧ lwW hl m (n + d) = lwW hl m n
  | 0 => ⟨rfl, rfl⟩
  | d + 1 => by
    obtain ⟨h1, h2⟩ := lw_stop (hl := hl) h d
    rw [← Nat.add_assoc]
    simp only [lwK, lwW]
    rw [if_pos (by omega), if_pos (by omega), h1, h2]
    exact ⟨rfl, rfl⟩
/-- the catch and the took of f are written -/
def endS (st : Nat → Nat → Int32) (g f : Nat) (x c : Int32) : Nat → Nat → Int32 := up2 (up2 st 6 f x) 3 (8 * g + f) (st 3 (8 * g + f) + c)
theorem r_f271 {m t a g f : Nat} {x c : Int32} {st : Nat → Nat → Int32} {M : gMem} (L : LSt m t a M) (hg : g < 8) (hf : f < 8) : b_X12_fishFor_271 (bC 17 a st M) a (nI f) (nI g) c x = some ((), bC 17 a (endS st g f x c) M) := by
  have i3 : inb (nI f) 8 := (inbN (by omega)).mpr (by omega)
  have i4 : inb (nI (8 * g + f)) 64 := (inbN (by omega)).mpr (by omega)
  unfold b_X12_fishFor_271
  rw [ck_t (q_T L), dr_s (q_R7 L), ck_t (q_T6 L), q_L6 L, ck_t i3, bC_Wc (by omega) (by omega)]
  simp only [lw_S]
  rw [dr_s (q_R4 L), ck_t (q_T3 L), q_L3 L, m8, nI_add, ck_t i4, ck_t i4, bC_Ic (by omega) (by omega), up2_ne (by omega), bC_Wc (by omega) (by omega)]
  all_goals ((try simp only [lw_S, nI_1]); (try rfl))
/-- a torn net lets the small ones go -/
theorem r_f206 {m t a g f m' c x : Nat} {hl : Nat → Nat} {st : Nat → Nat → Int32} {F N : Nat → Int32} {M : gMem} (L : LSt m t a M) (hg : g < 8) (hf : f < 8) (hm1 : 1 ≤ m') (hm : m' ≤ 6) (em : st 4 f = nI m') (hN : ∀ s, 1 ≤ s → s ≤ 5 → N s = nI (hl s)) (hc : lwK hl m' 5 ≤ c) (hx : lwW hl m' 5 ≤ x) : ∃ F', lp_X12_fishFor_206 (bC 17 a (fnS st F N) M) a (nI f) (nI g) (nI c) (nI x) (nI 1) = some ((), bC 17 a (endS (fnS st F' N) g f (nI (x - lwW hl m' 5)) (nI (c - lwK hl m' 5))) M) ∧ (∀ s, 1 ≤ s → s ≤ 5 → F' (5 * g + s - 1) = if m' ≤ s then F (5 * g + s - 1) else F (5 * g + s - 1) + nI (hl s)) ∧ ∀ i, (i < 5 * g ∨ 5 * g + 5 ≤ i) → F' i = F i := by
  have i3 : inb (nI f) 8 := (inbN (by omega)).mpr (by omega)
  have mono : ∀ d n, lwK hl m' n ≤ lwK hl m' (n + d) ∧ lwW hl m' n ≤ lwW hl m' (n + d) := by
    intro d
    induction d with
    | zero => intro n; exact ⟨Nat.le_refl _, Nat.le_refl _⟩
    | succ d ih =>
      intro n
      obtain ⟨h1, h2⟩ := ih n
      rw [← Nat.add_assoc]
      simp only [lwK, lwW]
      constructor <;> omega
  have key : ∀ d k F1, k + d = m' → 1 ≤ k → (∀ s, 1 ≤ s → s ≤ 5 → F1 (5 * g + s - 1) = if k ≤ s then F (5 * g + s - 1) else F (5 * g + s - 1) + nI (hl s)) → (∀ i, (i < 5 * g ∨ 5 * g + 5 ≤ i) → F1 i = F i) → ∃ F', lp_X12_fishFor_206 (bC 17 a (fnS st F1 N) M) a (nI f) (nI g) (nI (c - lwK hl m' (k - 1))) (nI (x - lwW hl m' (k - 1))) (nI k) = some ((), bC 17 a (endS (fnS st F' N) g f (nI (x - lwW hl m' 5)) (nI (c - lwK hl m' 5))) M) ∧ (∀ s, 1 ≤ s → s ≤ 5 → F' (5 * g + s - 1) = if m' ≤ s then F (5 * g + s - 1) else F (5 * g + s - 1) + nI (hl s)) ∧ ∀ i, (i < 5 * g ∨ 5 * g + 5 ≤ i) → F' i = F i := by
    intro d
    induction d with
    | zero =>
      intro k F1 hk hk1 h1 h2
      have : k = m' := by omega
      subst this
      refine ⟨F1, ?_, h1, h2⟩
      have hst : lwK hl k (k - 1) = lwK hl k 5 ∧ lwW hl k (k - 1) = lwW hl k 5 := by
        have := lw_stop (hl := hl) (m := k) (n := k - 1) (by omega) (5 - (k - 1))
        rw [show k - 1 + (5 - (k - 1)) = 5 by omega] at this
        exact ⟨this.1.symm, this.2.symm⟩
      rw [hst.1, hst.2]
      unfold lp_X12_fishFor_206
      refine lp_out ?_
      have q : nI k ≤ nI k := nI_le (Nat.le_refl _) (by omega)
      show bb_X12_fishFor_206 (bC 17 a (fnS st F1 N) M) a (nI f) (nI g) (nI (c - lwK hl k 5)) (nI (x - lwW hl k 5)) (nI k) = _
      unfold bb_X12_fishFor_206
      rw [ck_t (q_T L), dr_s (q_R5 L), ck_t (q_T4 L), q_L4 L, ck_t i3, bC_Ic (by omega) (by omega), fnS_o (by omega), em, if_pos q, r_f271 L hg hf]
      all_goals ((try simp only [lw_S, nI_1]); (try rfl))
    | succ d ih =>
      intro k F1 hk hk1 h1 h2
      have q : ¬ nI m' ≤ nI k := fun q => by have := (nI_leI (by omega) (by omega)).mp q; omega
      have i1 : inb (nI (5 * g + k - 1)) 40 := (inbN (by omega)).mpr (by omega)
      have i2 : inb (nI k) 6 := (inbN (by omega)).mpr (by omega)
      have ei : nI (5 * g + k) - (1 : Int32) = nI (5 * g + k - 1) := sb1 (by omega)
      have hlk : lwK hl m' k = lwK hl m' (k - 1) + hl k ∧ lwW hl m' k = lwW hl m' (k - 1) + hl k * k := by
        obtain ⟨k', rfl⟩ : ∃ k', k = k' + 1 := ⟨k - 1, by omega⟩
        simp only [lwK, lwW, Nat.add_sub_cancel]
        rw [if_neg (by omega), if_neg (by omega)]
        exact ⟨rfl, rfl⟩
      have hm5 := mono (5 - k) k
      rw [show k + (5 - k) = 5 by omega] at hm5
      have eF := h1 k hk1 (by omega)
      rw [if_pos (Nat.le_refl k)] at eF
      have hkl := hN k hk1 (by omega)
      have w1 : nI (c - lwK hl m' (k - 1)) - nI (hl k) = nI (c - lwK hl m' k) := by rw [nI_sub (by omega)]; congr 1; omega
      have w2 : nI (x - lwW hl m' (k - 1)) - nI (k * hl k) = nI (x - lwW hl m' k) := by
        have : k * hl k = hl k * k := Nat.mul_comm _ _
        rw [this, nI_sub (by omega)]; congr 1; omega
      have e1 : bb_X12_fishFor_206 (bC 17 a (fnS st F1 N) M) a (nI f) (nI g) (nI (c - lwK hl m' (k - 1))) (nI (x - lwW hl m' (k - 1))) (nI k) = some (.inl (bC 17 a (fnS st (up1 F1 (5 * g + k - 1) (F (5 * g + k - 1) + nI (hl k))) N) M, nI (c - lwK hl m' k), nI (x - lwW hl m' k), nI (k + 1))) := by
        unfold bb_X12_fishFor_206
        
        rw [ck_t (q_T L), dr_s (q_R5 L), ck_t (q_T4 L), q_L4 L, ck_t i3, bC_Ic (by omega) (by omega), fnS_o (by omega), em, if_neg q, dr_s (q_R2 L), ck_t (q_T1 L), q_L1 L, m5, nI_add, ei, ck_t i1, dr_s (q_R16 L), ck_t (q_T15 L), q_L15 L, ck_t i2, ck_t i1, bC_Ic (by omega) (by omega), bC_Ic (by omega) (by omega), fnS_1, fnS_15, eF, hkl, bC_Wc (by omega) (by omega), fnS_w1]
        simp only [lw_S]
        rw [dr_s (q_R16 L), ck_t (q_T15 L), q_L15 L, ck_t i2, ck_t i2, bC_Ic (by omega) (by omega), fnS_15, hkl, nI_mul, w1, w2, nI_1]
      obtain ⟨F', g1, g2, g3⟩ := ih (k + 1) (up1 F1 (5 * g + k - 1) (F (5 * g + k - 1) + nI (hl k))) (by omega) (by omega) (fun s s1 s2 => by
        by_cases c0 : s = k
        · subst c0
          rw [up1_e, if_neg (by omega)]
        · rw [up1_o (by omega), h1 s s1 s2]
          by_cases c1 : k ≤ s
          · rw [if_pos c1, if_pos (by omega)]
          · rw [if_neg c1, if_neg (by omega)]) (fun i hi => by rw [up1_o (by omega), h2 i hi])
      refine ⟨F', ?_, g2, g3⟩
      rw [← g1, Nat.add_sub_cancel]
      unfold lp_X12_fishFor_206
      exact lp_in e1
  obtain ⟨F', g1, g2, g3⟩ := key (m' - 1) 1 F (by omega) (by omega) (fun s s1 s2 => by rw [if_pos s1]) (fun i _ => rfl)
  exact ⟨F', g1, g2, g3⟩
/-- a fisher f at the ground g fishes: the row of fish, the mesh, the tears, the catch, the took -/
theorem r_fishFor {m t a g f : Nat} {A st : Nat → Nat → Int32} {M : gMem} (L : LSt m t a M) (hg : g < 8) (hf : f < 8) (G : okG A g) (F : okF A f) (eF : ∀ k, k < 5 → st 1 (5 * g + k) = A (19 + 2 * g) (k + 1)) (eM : st 4 f = A (34 + 2 * f) 1) (eW : mI M (t + 4) f = A (34 + 2 * f) 2) (eH : mI M (t + 5) f = A (34 + 2 * f) 3) : ∃ st' m', f_X12_fishFor (bC 17 a st M) a (nI f) (nI g) = some ((), bC 17 a st' M) ∧ nI m' = (if (hlA A g f).2.2.2 = 0 then A (34 + 2 * f) 1 else imin (A (34 + 2 * f) 1 + nI 1) (nI 6)) ∧ m' ≤ 6 ∧ (∀ s, 1 ≤ s → s ≤ 5 → st' 1 (5 * g + s - 1) = fsN (A (19 + 2 * g)) (hlA A g f).1 m' 5 s) ∧ (∀ i, (i < 5 * g ∨ 5 * g + 5 ≤ i) → st' 1 i = st 1 i) ∧ st' 4 f = nI m' ∧ (∀ i, i ≠ f → st' 4 i = st 4 i) ∧ (st' 8 f = if (hlA A g f).2.2.2 = 0 then st 8 f else st 8 f + nI 1) ∧ (∀ i, i ≠ f → st' 8 i = st 8 i) ∧ st' 6 f = nI (wgN (hlA A g f).1 m' 5) ∧ (∀ i, i ≠ f → st' 6 i = st 6 i) ∧ st' 3 (8 * g + f) = st 3 (8 * g + f) + nI (kpN (hlA A g f).1 m' 5) ∧ (∀ i, i ≠ 8 * g + f → st' 3 i = st 3 i) ∧ ∀ d, d ≠ 1 → d ≠ 3 → d ≠ 4 → d ≠ 6 → d ≠ 8 → d ≠ 15 → st' d = st d := by
  obtain ⟨⟨mm, hm1, hm, em⟩, ⟨w, hw, ew⟩, h, hh, eh⟩ := F
  have i3 : inb (nI f) 8 := (inbN (by omega)).mpr (by omega)
  have hlE : hlA A g f = hlN (fun s => (A (19 + 2 * g) s).toNatClampNeg) h w mm 5 := by
    unfold hlA
    rw [em, ew, eh, nI_clamp (by omega), nI_clamp (by omega), nI_clamp (by omega)]
  rw [hlE]
  obtain ⟨fk, hfk⟩ : ∃ fk : Nat → Nat, fk = fun s => (A (19 + 2 * g) s).toNatClampNeg := ⟨_, rfl⟩
  have hfe : ∀ s, 1 ≤ s → s ≤ 5 → fk s ≤ 99 ∧ A (19 + 2 * g) s = nI (fk s) := by
    intro s h1 h2
    obtain ⟨n, hn, en⟩ := G s h1 h2
    rw [hfk]
    simp only
    rw [en, nI_clamp (by omega)]
    exact ⟨hn, rfl⟩
  rw [← hfk]
  have eW' : mI M (t + 4) f = nI w := by rw [eW, ew]
  have eH' : mI M (t + 5) f = nI h := by rw [eH, eh]
  -- the net is empty
  have k11 : ∀ d k N, k + d = 6 → 1 ≤ k → (∀ s, 1 ≤ s → s < k → N s = nI 0) → ∃ N', (∀ s, 1 ≤ s → s ≤ 5 → N' s = nI 0) ∧ lp_X12_fishFor_11 (bC 17 a (fnS st (st 1) N) M) a (nI f) (nI g) (nI 0) (nI 0) (nI 1) (nI k) = lp_X12_fishFor_34 (bC 17 a (fnS st (st 1) N') M) a (nI f) (nI g) (nI 0) (nI 0) (nI 1) (nI 5) := by
    intro d
    induction d with
    | zero =>
      intro k N hk hk1 h1
      have : k = 6 := by omega
      subst this
      refine ⟨N, fun s s1 s2 => h1 s s1 (by omega), ?_⟩
      have q : (5 : Int32) < nI 6 := by decide
      have e : bb_X12_fishFor_11 (bC 17 a (fnS st (st 1) N) M) a (nI f) (nI g) (nI 0) (nI 0) (nI 1) (nI 6) = oI (lp_X12_fishFor_34 (bC 17 a (fnS st (st 1) N) M) a (nI f) (nI g) (nI 0) (nI 0) (nI 1) (nI 5)) := by
        unfold bb_X12_fishFor_11
        
        rw [if_pos q]
        all_goals ((try simp only [lw_S, nI_1]); (try rfl))
      conv => lhs; unfold lp_X12_fishFor_11
      rw [lp_eq]
      simp only [e]
      cases lp_X12_fishFor_34 (bC 17 a (fnS st (st 1) N) M) a (nI f) (nI g) (nI 0) (nI 0) (nI 1) (nI 5) <;> rfl
    | succ d ih =>
      intro k N hk hk1 h1
      have q : ¬ (5 : Int32) < nI k := nI_nlt (a := 5) (by omega) (by omega)
      have i2 : inb (nI k) 6 := (inbN (by omega)).mpr (by omega)
      obtain ⟨N', g1, g2⟩ := ih (k + 1) (up1 N k (nI 0)) (by omega) (by omega) (fun s s1 s2 => by
        by_cases c : s = k
        · subst c; exact up1_e _ _ _
        · rw [up1_o c]; exact h1 s s1 (by omega))
      refine ⟨N', g1, ?_⟩
      rw [← g2]
      unfold lp_X12_fishFor_11
      refine lp_in ?_
      show bb_X12_fishFor_11 (bC 17 a (fnS st (st 1) N) M) a (nI f) (nI g) (nI 0) (nI 0) (nI 1) (nI k) = _
      unfold bb_X12_fishFor_11
      
      rw [if_neg q, ck_t (q_T L), dr_s (q_R16 L), ck_t (q_T15 L), q_L15 L, ck_t i2, bC_Wc (by omega) (by omega), fnS_w15, nI_1]
      all_goals ((try simp only [lw_S, nI_1]); (try rfl))
  obtain ⟨N0, hN0, e11⟩ := k11 5 1 (st 15) (by omega) (by omega) (fun s h1 h2 => by omega)
  rw [fnS_self] at e11
  -- size by size
  have k34 : ∀ d j F1 N1, j + d = 5 → (∀ s, 1 ≤ s → s ≤ 5 → F1 (5 * g + s - 1) = nI (fk s - (hlN fk h w mm j).1 s)) → (∀ i, (i < 5 * g ∨ 5 * g + 5 ≤ i) → F1 i = st 1 i) → (∀ s, 1 ≤ s → s ≤ 5 → N1 s = nI ((hlN fk h w mm j).1 s)) → ∃ F' N', (∀ s, 1 ≤ s → s ≤ 5 → F' (5 * g + s - 1) = nI (fk s - (hlN fk h w mm 5).1 s)) ∧ (∀ i, (i < 5 * g ∨ 5 * g + 5 ≤ i) → F' i = st 1 i) ∧ (∀ s, 1 ≤ s → s ≤ 5 → N' s = nI ((hlN fk h w mm 5).1 s)) ∧ lp_X12_fishFor_34 (bC 17 a (fnS st F1 N1) M) a (nI f) (nI g) (nI (hlN fk h w mm j).2.1) (nI (hlN fk h w mm j).2.2.1) (nI (1 - (hlN fk h w mm j).2.2.2)) (nI (5 - j)) = b_X12_fishFor_169 (bC 17 a (fnS st F' N') M) a (nI f) (nI g) (nI (hlN fk h w mm 5).2.1) (nI (hlN fk h w mm 5).2.2.1) (nI (1 - (hlN fk h w mm 5).2.2.2)) := by
    intro d
    induction d with
    | zero =>
      intro j F1 N1 hj h1 h2 h3
      have : j = 5 := by omega
      subst this
      refine ⟨F1, N1, h1, h2, h3, ?_⟩
      have q : nI (5 - 5) < nI mm := nI_lt (by omega) (by omega)
      have e : bb_X12_fishFor_34 (bC 17 a (fnS st F1 N1) M) a (nI f) (nI g) (nI (hlN fk h w mm 5).2.1) (nI (hlN fk h w mm 5).2.2.1) (nI (1 - (hlN fk h w mm 5).2.2.2)) (nI (5 - 5)) = oI (b_X12_fishFor_169 (bC 17 a (fnS st F1 N1) M) a (nI f) (nI g) (nI (hlN fk h w mm 5).2.1) (nI (hlN fk h w mm 5).2.2.1) (nI (1 - (hlN fk h w mm 5).2.2.2))) := by
        unfold bb_X12_fishFor_34
        rw [ck_t (q_T L), dr_s (q_R5 L), ck_t (q_T4 L), q_L4 L, ck_t i3, bC_Ic (by omega) (by omega), fnS_o (by omega), eM, em, if_pos q]
      conv => lhs; unfold lp_X12_fishFor_34
      rw [lp_eq]
      simp only [e]
      cases b_X12_fishFor_169 (bC 17 a (fnS st F1 N1) M) a (nI f) (nI g) (nI (hlN fk h w mm 5).2.1) (nI (hlN fk h w mm 5).2.2.1) (nI (1 - (hlN fk h w mm 5).2.2.2)) <;> rfl
    | succ d ih =>
      intro j F1 N1 hj h1 h2 h3
      obtain ⟨b1, b2, b3, b4, b5, b6⟩ := hlN_b (fk := fk) (h := h) (w := w) (m := mm) j
      by_cases c : mm ≤ 5 - j ∧ (hlN fk h w mm j).2.2.2 = 0
      · have hq : hlN fk h w mm (j + 1) = hl1 fk h w (5 - j) (hlN fk h w mm j) := by rw [hlN, if_pos c]
        have z0 := b4 (5 - j) (by omega) (Nat.le_refl _)
        have hin := r_inner (st := st) (F := F1) (N := N1) (s := 5 - j) (n := fk (5 - j)) (c := (hlN fk h w mm j).2.1) (x := (hlN fk h w mm j).2.2.1) L hg hf (by omega) (by omega) (by have := (hfe (5 - j) (by omega) (by omega)).1; omega) (show h < 100 by omega) eH' (show w < 100 by omega) eW' b1 b2 (min (min (fk (5 - j)) (h - (hlN fk h w mm j).2.1)) ((w - (hlN fk h w mm j).2.2.1) / (5 - j))) 0 (by omega)
        have eF1 : up1 F1 (5 * g + (5 - j) - 1) (nI (fk (5 - j) - 0)) = F1 := by
          have := h1 (5 - j) (by omega) (by omega)
          rw [z0] at this
          rw [← this]
          exact up1_self _ _
        have eN1 : up1 N1 (5 - j) (nI 0) = N1 := by
          have := h3 (5 - j) (by omega) (by omega)
          rw [z0] at this
          rw [← this]
          exact up1_self _ _
        rw [eF1, eN1] at hin
        simp only [Nat.zero_add, Nat.zero_mul, Nat.add_zero] at hin
        obtain ⟨v, hv⟩ : ∃ v, v = min (min (fk (5 - j)) (h - (hlN fk h w mm j).2.1)) ((w - (hlN fk h w mm j).2.2.1) / (5 - j)) := ⟨_, rfl⟩
        rw [← hv] at hin
        have e1 : (hlN fk h w mm (j + 1)).1 = up1 (hlN fk h w mm j).1 (5 - j) v := by rw [hq, hv]; rfl
        have e2 : (hlN fk h w mm (j + 1)).2.1 = (hlN fk h w mm j).2.1 + v := by rw [hq, hv]; rfl
        have e3 : (hlN fk h w mm (j + 1)).2.2.1 = (hlN fk h w mm j).2.2.1 + v * (5 - j) := by rw [hq, hv]; rfl
        have e4 : nI (1 - (hlN fk h w mm (j + 1)).2.2.2) = if min (fk (5 - j)) (h - (hlN fk h w mm j).2.1) ≤ (w - (hlN fk h w mm j).2.2.1) / (5 - j) then nI 1 else nI 0 := by
          rw [hq]
          unfold hl1
          simp only
          split <;> rfl
        rw [← e4, ← e2, ← e3] at hin
        obtain ⟨F', N', g1, g2, g3, g4⟩ := ih (j + 1) (up1 F1 (5 * g + (5 - j) - 1) (nI (fk (5 - j) - v))) (up1 N1 (5 - j) (nI v)) (by omega) (fun s s1 s2 => by
          rw [e1]
          by_cases cs : s = 5 - j
          · subst cs; rw [up1_e, up1_e]
          · rw [up1_o (by omega), up1_o cs, h1 s s1 s2]) (fun i hi => by rw [up1_o (by omega), h2 i hi]) (fun s s1 s2 => by
          rw [e1]
          by_cases cs : s = 5 - j
          · subst cs; rw [up1_e, up1_e]
          · rw [up1_o cs, up1_o cs, h3 s s1 s2])
        refine ⟨F', N', g1, g2, g3, ?_⟩
        rw [← g4]
        unfold lp_X12_fishFor_34
        refine lp_in ?_
        show bb_X12_fishFor_34 (bC 17 a (fnS st F1 N1) M) a (nI f) (nI g) (nI (hlN fk h w mm j).2.1) (nI (hlN fk h w mm j).2.2.1) (nI (1 - (hlN fk h w mm j).2.2.2)) (nI (5 - j)) = _
        have q : ¬ nI (5 - j) < nI mm := nI_nlt c.1 (by omega)
        have n1 : ¬ nI 1 = 0 := by decide
        have n2 : ¬ (1 : Int32) = 0 := by decide
        rw [c.2]
        unfold bb_X12_fishFor_34
        
        rw [ck_t (q_T L), dr_s (q_R5 L), ck_t (q_T4 L), q_L4 L, ck_t i3, bC_Ic (by omega) (by omega), fnS_o (by omega), eM, em, if_neg q, if_neg n1, hin]
        all_goals ((try simp only [lw_S, nI_1]); (try rfl))
      · have hst := hlN_stop c (5 - j)
        rw [show j + (5 - j) = 5 by omega] at hst
        rw [hst]
        refine ⟨F1, N1, h1, h2, h3, ?_⟩
        have e : bb_X12_fishFor_34 (bC 17 a (fnS st F1 N1) M) a (nI f) (nI g) (nI (hlN fk h w mm j).2.1) (nI (hlN fk h w mm j).2.2.1) (nI (1 - (hlN fk h w mm j).2.2.2)) (nI (5 - j)) = oI (b_X12_fishFor_169 (bC 17 a (fnS st F1 N1) M) a (nI f) (nI g) (nI (hlN fk h w mm j).2.1) (nI (hlN fk h w mm j).2.2.1) (nI (1 - (hlN fk h w mm j).2.2.2))) := by
          unfold bb_X12_fishFor_34
          rw [ck_t (q_T L), dr_s (q_R5 L), ck_t (q_T4 L), q_L4 L, ck_t i3, bC_Ic (by omega) (by omega), fnS_o (by omega), eM, em]
          by_cases c1 : 5 - j < mm
          · have q : nI (5 - j) < nI mm := nI_lt c1 (by omega)
            rw [if_pos q]
          · have q : ¬ nI (5 - j) < nI mm := nI_nlt (by omega) (by omega)
            have t1 : (hlN fk h w mm j).2.2.2 = 1 := by
              have : ¬ (hlN fk h w mm j).2.2.2 = 0 := fun z => c ⟨by omega, z⟩
              omega
            rw [if_neg q, t1]
            all_goals ((try simp only [lw_S, nI_1]); (try rfl))
        conv => lhs; unfold lp_X12_fishFor_34
        rw [lp_eq]
        simp only [e]
        cases b_X12_fishFor_169 (bC 17 a (fnS st F1 N1) M) a (nI f) (nI g) (nI (hlN fk h w mm j).2.1) (nI (hlN fk h w mm j).2.2.1) (nI (1 - (hlN fk h w mm j).2.2.2)) <;> rfl
  obtain ⟨F', N', g1, g2, g3, g4⟩ := k34 5 0 (st 1) N0 (by omega) (fun s s1 s2 => by
    have := eF (s - 1) (by omega)
    rw [show 5 * g + (s - 1) = 5 * g + s - 1 by omega, show s - 1 + 1 = s by omega, (hfe s s1 s2).2] at this
    exact this) (fun i _ => rfl) hN0
  obtain ⟨b1, b2, b3, b4, b5, b6⟩ := hlN_b (fk := fk) (h := h) (w := w) (m := mm) 5
  obtain ⟨-, s1, s2⟩ := hlN_sum (fk := fk) (h := h) (w := w) (m := mm) 5 (Nat.le_refl _)
  have e0 : f_X12_fishFor (bC 17 a st M) a (nI f) (nI g) = b_X12_fishFor_169 (bC 17 a (fnS st F' N') M) a (nI f) (nI g) (nI (hlN fk h w mm 5).2.1) (nI (hlN fk h w mm 5).2.2.1) (nI (1 - (hlN fk h w mm 5).2.2.2)) := e11.trans g4
  rw [e0]
  have n1 : ¬ nI 1 = 0 := by decide
  have n2 : ¬ (1 : Int32) = 0 := by decide
  by_cases ct : (hlN fk h w mm 5).2.2.2 = 0
  · -- whole
    have k1 := lw_kp (hl := (hlN fk h w mm 5).1) (m := mm) 5
    have kz : lwK (hlN fk h w mm 5).1 mm 5 = 0 ∧ lwW (hlN fk h w mm 5).1 mm 5 = 0 := by
      have : ∀ n, lwK (hlN fk h w mm 5).1 mm n = 0 ∧ lwW (hlN fk h w mm 5).1 mm n = 0 := by
        intro n
        induction n with
        | zero => exact ⟨rfl, rfl⟩
        | succ n ih =>
          simp only [lwK, lwW]
          by_cases q : mm ≤ n + 1
          · rw [if_pos q, if_pos q, ih.1, ih.2]; exact ⟨rfl, rfl⟩
          · rw [if_neg q, if_neg q, ih.1, ih.2, b5 (n + 1) (by omega), Nat.zero_mul]; exact ⟨rfl, rfl⟩
      exact this 5
    have kk : kpN (hlN fk h w mm 5).1 mm 5 = (hlN fk h w mm 5).2.1 := by omega
    have kw : wgN (hlN fk h w mm 5).1 mm 5 = (hlN fk h w mm 5).2.2.1 := by omega
    have e9 : b_X12_fishFor_169 (bC 17 a (fnS st F' N') M) a (nI f) (nI g) (nI (hlN fk h w mm 5).2.1) (nI (hlN fk h w mm 5).2.2.1) (nI (1 - (hlN fk h w mm 5).2.2.2)) = b_X12_fishFor_271 (bC 17 a (fnS st F' N') M) a (nI f) (nI g) (nI (hlN fk h w mm 5).2.1) (nI (hlN fk h w mm 5).2.2.1) := by
      unfold b_X12_fishFor_169
      rw [ct]
      exact if_neg n1
    rw [e9, r_f271 L hg hf]
    refine ⟨_, mm, rfl, by rw [if_pos ct, em], hm, fun s p1 p2 => ?_, fun i hi => ?_, ?_, fun i hi => ?_, ?_, fun i hi => ?_, ?_, fun i hi => ?_, ?_, fun i hi => ?_, fun d d1 d2 d3 d4 d5 d6 => ?_⟩
    · unfold endS
      rw [up2_ne (by omega), up2_ne (by omega), fnS_1, g1 s p1 p2]
      unfold fsN
      rw [(hfe s p1 p2).2]
      by_cases q : mm ≤ s ∧ 1 ≤ s ∧ s ≤ 5
      · rw [if_pos q, nI_sub (b6 s).1]
      · rw [if_neg q, b5 s (by omega)]
        all_goals ((try simp only [lw_S, nI_1]); (try rfl))
    · unfold endS
      rw [up2_ne (by omega), up2_ne (by omega), fnS_1, g2 i hi]
    · unfold endS
      rw [up2_ne (by omega), up2_ne (by omega), fnS_o (by omega), eM, em]
    · unfold endS
      rw [up2_ne (by omega), up2_ne (by omega), fnS_o (by omega)]
    · unfold endS
      rw [up2_ne (by omega), up2_ne (by omega), fnS_o (by omega), if_pos ct]
    · unfold endS
      rw [up2_ne (by omega), up2_ne (by omega), fnS_o (by omega)]
    · unfold endS
      rw [up2_ne (by omega), up2_eq, kw]
    · unfold endS
      rw [up2_ne (by omega), up2_ne (by omega), fnS_o (by omega)]
    · unfold endS
      rw [up2_eq, fnS_o (by omega), kk]
    · unfold endS
      rw [up2_ne (by omega), up2_ne (by omega), fnS_o (by omega)]
    · funext k
      unfold endS
      rw [up2_ne (by omega), up2_ne (by omega), fnS_o (by omega)]
  · -- torn
    have t1 : (hlN fk h w mm 5).2.2.2 = 1 := by omega
    have em' : imin (6 : Int32) (nI mm + (1 : Int32)) = nI (min (mm + 1) 6) := (imin_c _ _).trans (imin6 hm)
    have wA : up2 (up2 (fnS st F' N') 4 f (nI (min (mm + 1) 6))) 8 f (st 8 f + nI 1) = fnS (up2 (up2 st 4 f (nI (min (mm + 1) 6))) 8 f (st 8 f + nI 1)) F' N' := by
      unfold fnS
      rw [up2_up1c (by omega), up2_up1c (by omega), up2_up1c (by omega), up2_up1c (by omega)]
    have wA' : up2 (up2 (fnS st F' N') 4 f (nI (min (mm + 1) 6))) 8 f (st 8 f + (1 : Int32)) = fnS (up2 (up2 st 4 f (nI (min (mm + 1) 6))) 8 f (st 8 f + nI 1)) F' N' := wA
    have k1 := lw_kp (hl := (hlN fk h w mm 5).1) (m := min (mm + 1) 6) 5
    obtain ⟨F2, f1, f2, f3⟩ := r_f206 (st := up2 (up2 st 4 f (nI (min (mm + 1) 6))) 8 f (st 8 f + nI 1)) (F := F') (N := N') (m' := min (mm + 1) 6) (c := (hlN fk h w mm 5).2.1) (x := (hlN fk h w mm 5).2.2.1) (hl := (hlN fk h w mm 5).1) L hg hf (by omega) (by omega) (by rw [up2_ne (by omega), up2_eq]) g3 (by omega) (by omega)
    have kk : (hlN fk h w mm 5).2.1 - lwK (hlN fk h w mm 5).1 (min (mm + 1) 6) 5 = kpN (hlN fk h w mm 5).1 (min (mm + 1) 6) 5 := by omega
    have kw : (hlN fk h w mm 5).2.2.1 - lwW (hlN fk h w mm 5).1 (min (mm + 1) 6) 5 = wgN (hlN fk h w mm 5).1 (min (mm + 1) 6) 5 := by omega
    rw [kk, kw] at f1
    have e9 : b_X12_fishFor_169 (bC 17 a (fnS st F' N') M) a (nI f) (nI g) (nI (hlN fk h w mm 5).2.1) (nI (hlN fk h w mm 5).2.2.1) (nI (1 - (hlN fk h w mm 5).2.2.2)) = some ((), bC 17 a (endS (fnS (up2 (up2 st 4 f (nI (min (mm + 1) 6))) 8 f (st 8 f + nI 1)) F2 N') g f (nI (wgN (hlN fk h w mm 5).1 (min (mm + 1) 6) 5)) (nI (kpN (hlN fk h w mm 5).1 (min (mm + 1) 6) 5))) M) := by
      unfold b_X12_fishFor_169
      rw [t1, show 1 - 1 = 0 from rfl, if_pos (show nI 0 = (0 : Int32) from rfl), ck_t (q_T L), dr_s (q_R5 L), ck_t (q_T4 L), q_L4 L, ck_t i3, ck_t i3, bC_Ic (by omega) (by omega), fnS_o (by omega), eM, em, em', bC_Wc (by omega) (by omega)]
      simp only [lw_S]
      rw [dr_s (q_R9 L), ck_t (q_T8 L), q_L8 L, ck_t i3, ck_t i3, bC_Ic (by omega) (by omega), up2_ne (by omega), fnS_o (by omega), bC_Wc (by omega) (by omega), wA']
      exact f1
    refine ⟨_, min (mm + 1) 6, e9, by rw [if_neg ct, em, imin6 hm], by omega, fun s p1 p2 => ?_, fun i hi => ?_, ?_, fun i hi => ?_, ?_, fun i hi => ?_, ?_, fun i hi => ?_, ?_, fun i hi => ?_, fun d d1 d2 d3 d4 d5 d6 => ?_⟩
    · unfold endS
      rw [up2_ne (by omega), up2_ne (by omega), fnS_1, f2 s p1 p2, g1 s p1 p2]
      unfold fsN
      rw [(hfe s p1 p2).2]
      by_cases q : min (mm + 1) 6 ≤ s ∧ 1 ≤ s ∧ s ≤ 5
      · rw [if_pos q, if_pos q.1, nI_sub (b6 s).1]
      · have q' : ¬ min (mm + 1) 6 ≤ s := by omega
        rw [if_neg q, if_neg q', nI_add, Nat.sub_add_cancel (b6 s).1]
    · unfold endS
      rw [up2_ne (by omega), up2_ne (by omega), fnS_1, f3 i hi, g2 i hi]
    · unfold endS
      rw [up2_ne (by omega), up2_ne (by omega), fnS_o (by omega), up2_ne (by omega), up2_eq]
    · unfold endS
      rw [up2_ne (by omega), up2_ne (by omega), fnS_o (by omega), up2_ne (by omega), up2_ne (by omega)]
    · unfold endS
      rw [up2_ne (by omega), up2_ne (by omega), fnS_o (by omega), up2_eq, if_neg ct]
    · unfold endS
      rw [up2_ne (by omega), up2_ne (by omega), fnS_o (by omega), up2_ne (by omega), up2_ne (by omega)]
    · unfold endS
      rw [up2_ne (by omega), up2_eq]
    · unfold endS
      rw [up2_ne (by omega), up2_ne (by omega), fnS_o (by omega), up2_ne (by omega), up2_ne (by omega)]
    · unfold endS
      rw [up2_eq, fnS_o (by omega), up2_ne (by omega), up2_ne (by omega)]
    · unfold endS
      rw [up2_ne (by omega), up2_ne (by omega), fnS_o (by omega), up2_ne (by omega), up2_ne (by omega)]
    · funext k
      unfold endS
      rw [up2_ne (by omega), up2_ne (by omega), fnS_o (by omega), up2_ne (by omega), up2_ne (by omega)]
