/-! ## Pure: the reader's rows over its world -/
theorem W_o {Z g ps vs : Nat → Nat} {K r p o : Nat} {M0 M : gMem} (W : CWd Z g ps vs K r p o M0) (C : CI r o M0 M) : CB r p o M ∧ CT Z g ps vs K p M := ⟨CI_B W.1 C, CI_T W.1 W.2.2.1 C⟩
theorem W_ho {Z g ps vs : Nat → Nat} {K r p o : Nat} {M0 : gMem} (W : CWd Z g ps vs K r p o M0) : p + 5 ≤ o ∧ o + 86 ≤ r := W.1.2.2.2.2
theorem W_fr {Z g ps vs : Nat → Nat} {K r p o : Nat} {M0 M : gMem} (W : CWd Z g ps vs K r p o M0) (C : CI r o M0 M) : FRS o M := by
  obtain ⟨f1, f2, f3, f4, f5, f6⟩ := W.2.1
  have hI := C.2.2.1
  have ho := W_ho W
  have q : ∀ d, 12 ≤ d → d < 18 → mI M (o + d) = mI M0 (o + d) := fun d a b => hI _ (by unfold rg; omega)
  unfold FRS
  rw [q 12 (by omega) (by omega), q 13 (by omega) (by omega), q 14 (by omega) (by omega), q 15 (by omega) (by omega), q 16 (by omega) (by omega), q 17 (by omega) (by omega)]
  exact ⟨f1, f2, f3, f4, f5, f6⟩
theorem C_sign {Z g ps vs : Nat → Nat} {K r p o : Nat} {M0 M : gMem} (W : CWd Z g ps vs K r p o M0) (C : CI r o M0 M) {k : Nat} (h6 : mI M r 6 = nI k) (hk : k ≤ K) : f_X6_sign M r = some (some (Z (g k)), M) := c_sign (W_o W C).1 (W_o W C).2 W.2.2.2.2.2.1 h6 hk
theorem C_note {e : Int32} {Z g ps vs : Nat → Nat} {K r p o : Nat} {M0 M : gMem} (W : CWd Z g ps vs K r p o M0) (C : CI r o M0 M) {k : Nat} (h6 : mI M r 6 = nI k) (hk : k ≤ K) : f_X6_noteError M r e = some ((), ntM r p e k M) := c_note (W_o W C).1 (by have := W.2.2.2.2.2.1; omega) h6
theorem C_take {a : Nat} {Z g ps vs : Nat → Nat} {K r p o : Nat} {M0 M : gMem} (W : CWd Z g ps vs K r p o M0) (C : CI r o M0 M) {k : Nat} (h6 : mI M r 6 = nI k) (hk : k ≤ K) (ha : a < 42) : f_X6_take M r (some (Z a)) = if g k = a then some ((1 : Int32), at' r (k + 1) M) else some ((0 : Int32), M) :=
  c_take (W_o W C).1 (W_o W C).2 W.2.2.2.1 W.2.2.2.2.1 W.2.2.2.2.2.1 W.2.2.2.2.2.2 h6 hk ha
theorem C_find {x : Nat} {w : Int64} {Z g ps vs : Nat → Nat} {K r p o : Nat} {M0 M : gMem} (W : CWd Z g ps vs K r p o M0) (C : CI r o M0 M) (hx : isX r x) : f_X4_find M x w = some (fnd M x w, M) := by
  obtain ⟨a, a1, a2⟩ := C.2.2.2.2.1 x hx
  exact c_find (W_o W C).1 hx a1 a2
theorem at_k {r k : Nat} {M : gMem} : mI (at' r k M) r 6 = nI k := wI_e _ _ _ _
theorem nt_6 {r p k : Nat} {e : Int32} {M : gMem} : mI (ntM r p e k M) r 6 = mI M r 6 := (nt_g (r := r) (p := p) (k := k) (e := e) (M := M)).2.2.2.2 r 6 (.inr (by omega))
theorem kw_6 {r p x k : Nat} {M : gMem} : mI (kwM r p x k M) r 6 = mI M r 6 := by
  unfold kwM
  split
  · exact wI_o (.inr (by omega))
  · rw [wI_o (.inr (by omega)), nt_6, wI_o (.inr (by omega))]
theorem nb_6 {r p k : Nat} {lo hi : Int32} {M : gMem} : mI (nbM r p lo hi k M) r 6 = mI M r 6 := by
  unfold nbM
  split
  · rw [nt_6, wI_o (.inr (by omega))]
  · exact wI_o (.inr (by omega))
theorem nw_6 {r p x k : Nat} {M : gMem} (hx : isX r x) : mI (nwM r p x k M) r 6 = mI M r 6 := by
  unfold nwM
  split
  · split
    · rw [wI_o (.inr (by omega))]; rfl
    · exact nt_6
  · exact nt_6
theorem C_t40 {a : Nat} {M1 : gMem} {Z g ps vs : Nat → Nat} {K r p o : Nat} {M0 M : gMem} (W : CWd Z g ps vs K r p o M0) (C : CI r o M0 M) {k : Nat} (h6 : mI M r 6 = nI k) (hk : k ≤ K) (ha : a < 42) (hg : g k = a) : (bd (f_X6_take M r (some (Z a))) fun r1 M1 => ck (r1 = 0 ∨ r1 = 1) <| some (r1, M1)) = some ((1 : Int32), at' r (k + 1) M) := by
  rw [C_take W C h6 hk ha, if_pos hg, bd_S, ck_t (.inr rfl)]
theorem C_known {x : Nat} {Z g ps vs : Nat → Nat} {K r p o : Nat} {M0 M : gMem} (W : CWd Z g ps vs K r p o M0) (C : CI r o M0 M) {k : Nat} (h6 : mI M r 6 = nI k) (hk : k ≤ K) (hx : isX r x) : f_X6_takeKnown Z M r (some x) = if g k = 40 then some ((1 : Int32), at' r (k + 1) (kwM r p x k M)) else some ((0 : Int32), M) := by
  have ho := (W_ho W).2
  obtain ⟨⟨⟨t1, r1, -⟩, ⟨t2, -, -, r4, -, -, -, -, t5, l5⟩, bX, -⟩, T⟩ := W_o W C
  have hK := W.2.2.2.2.2.1
  have q : inb (nI k) 401 := (inbN (by omega)).mpr (by omega)
  unfold f_X6_takeKnown b_X6_takeKnown_0 b_X6_takeKnown_49
  rw [ck_t t1, C_sign W C h6 hk, bd_S]
  by_cases c : g k = 40
  · rw [if_pos (show some (Z (g k)) = some (Z 40) by rw [c]), if_pos c, ck_t t1, dr_s r1, ck_t t2, dr_s r4, ck_t t5, h6, l5, ck_t q, dr_S, ck_t (bX x hx).1, nI_clamp (by omega), C_find W C hx, bd_S, ck_t t1, lw_S]
    have C1 : CI r o M0 (wI M r 8 (fnd M x (mJ M (p + 4) k))) := CI_r ho C
    have h1 : mI (wI M r 8 (fnd M x (mJ M (p + 4) k))) r 6 = nI k := by rw [wI_o (.inr (by omega))]; exact h6
    have e8 : mI (wI M r 8 (fnd M x (mJ M (p + 4) k))) r 8 = fnd M x (mJ M (p + 4) k) := wI_e _ _ _ _
    rw [e8]
    unfold kwM
    generalize fnd M x (mJ M (p + 4) k) = v at C1 h1
    by_cases d : 0 ≤ v
    · rw [if_pos d, if_pos d, ck_t (show mT (wI M r 8 v) r = 6 from t1), C_t40 (M1 := M) W C1 h1 hk (by decide) c]
    · have t6 : mT (ntM r p 3 k (wI M r 8 v)) r = 6 := by rw [nt_g.1]; exact t1
      have C2 : CI r o M0 (wI (ntM r p 3 k (wI M r 8 v)) r 8 0) := CI_r ho (CI_nt ho C1)
      have h2 : mI (wI (ntM r p 3 k (wI M r 8 v)) r 8 0) r 6 = nI k := by rw [wI_o (.inr (by omega)), nt_6]; exact h1
      rw [if_neg d, if_neg d, C_note W C1 h1 hk, bd_S, ck_t t6, lw_S, ck_t (show mT (wI (ntM r p 3 k (wI M r 8 v)) r 8 0) r = 6 from t6), C_t40 (M1 := M) W C2 h2 hk (by decide) c]
  · rw [if_neg (show ¬ some (Z (g k)) = some (Z 40) from fun e => c (W.2.2.2.1 _ _ (W.2.2.2.2.1 k) (by omega) (Option.some.inj e))), if_neg c]
theorem C_num {lo hi : Int32} {Z g ps vs : Nat → Nat} {K r p o : Nat} {M0 M : gMem} (W : CWd Z g ps vs K r p o M0) (C : CI r o M0 M) {k : Nat} (h6 : mI M r 6 = nI k) (hk : k ≤ K) : f_X6_takeNumber Z M r lo hi = if g k = 41 then some ((1 : Int32), at' r (k + 1) (nbM r p lo hi k M)) else some ((0 : Int32), M) := by
  have ho := (W_ho W).2
  obtain ⟨⟨⟨t1, r1, -⟩, ⟨t2, -, -, r4, -, -, -, -, t5, l5⟩, -⟩, T⟩ := W_o W C
  have hK := W.2.2.2.2.2.1
  have q : inb (nI k) 401 := (inbN (by omega)).mpr (by omega)
  unfold f_X6_takeNumber b_X6_takeNumber_0 b_X6_takeNumber_45 b_X6_takeNumber_50
  rw [ck_t t1, C_sign W C h6 hk, bd_S]
  by_cases c : g k = 41
  · rw [if_pos (show some (Z (g k)) = some (Z 41) by rw [c]), if_pos c, ck_t t1, dr_s r1, ck_t t2, dr_s r4, ck_t t5, h6, l5, ck_t q, nI_clamp (by omega), lw_S]
    have C1 : CI r o M0 (wI M r 8 (Int64.toInt32 (mJ M (p + 4) k))) := CI_r ho C
    have h1 : mI (wI M r 8 (Int64.toInt32 (mJ M (p + 4) k))) r 6 = nI k := by rw [wI_o (.inr (by omega))]; exact h6
    have e8 : mI (wI M r 8 (Int64.toInt32 (mJ M (p + 4) k))) r 8 = Int64.toInt32 (mJ M (p + 4) k) := wI_e _ _ _ _
    rw [e8]
    unfold nbM
    generalize Int64.toInt32 (mJ M (p + 4) k) = v at C1 h1
    have C2 : CI r o M0 (ntM r p 5 k (wI M r 8 v)) := CI_nt ho C1
    have h2 : mI (ntM r p 5 k (wI M r 8 v)) r 6 = nI k := by rw [nt_6]; exact h1
    have t6 : mT (ntM r p 5 k (wI M r 8 v)) r = 6 := by rw [nt_g.1]; exact t1
    by_cases d : v < lo
    · rw [if_pos d, if_pos (show v < lo ∨ hi < v from .inl d), ck_t (show mT (wI M r 8 v) r = 6 from t1), C_note W C1 h1 hk, bd_S, ck_t t6, C_t40 (M1 := M) W C2 h2 hk (by decide) c]
    · rw [if_neg d]
      by_cases d2 : v ≤ hi
      · rw [if_pos d2, if_neg (show ¬ (v < lo ∨ hi < v) from fun z => z.elim d (fun z => Int32.lt_irrefl (Int32.lt_of_le_of_lt d2 z))), ck_t (show mT (wI M r 8 v) r = 6 from t1), C_t40 (M1 := M) W C1 h1 hk (by decide) c]
      · rw [if_neg d2, if_pos (show v < lo ∨ hi < v from .inr (Int32.not_le.mp d2)), ck_t (show mT (wI M r 8 v) r = 6 from t1), C_note W C1 h1 hk, bd_S, ck_t t6, C_t40 (M1 := M) W C2 h2 hk (by decide) c]
  · rw [if_neg (show ¬ some (Z (g k)) = some (Z 41) from fun e => c (W.2.2.2.1 _ _ (W.2.2.2.2.1 k) (by omega) (Option.some.inj e))), if_neg c]
theorem C_addn {x a : Nat} {w : Int64} {Z g ps vs : Nat → Nat} {K r p o : Nat} {M0 M : gMem} (W : CWd Z g ps vs K r p o M0) (C : CI r o M0 M) (hx : isX r x) (ha : a ≤ cap r x) (h1 : mI M x 1 = nI a) : f_X4_add M x w = if a < cap r x then some ((1 : Int32), wI (wJ M (x + 1) a w) x 1 (nI (a + 1))) else some ((0 : Int32), M) := by
  obtain ⟨t1, r1, t2, l2⟩ := (W_o W C).1.2.2.1 x hx
  have hc : cap r x ≤ 8 := by unfold cap; split <;> omega
  unfold f_X4_add b_X4_add_0
  rw [ck_t t1, dr_s r1, ck_t t2, h1, l2, show Int32.ofNat (cap r x) = nI (cap r x) from rfl]
  by_cases c : a < cap r x
  · have q : inb (nI a) (cap r x) := (inbN (by omega)).mpr c
    rw [if_pos (nI_lt c (by omega)), if_pos c, ck_t q, lw_S, lw_S, nI_clamp (by omega), show mI (wJ M (x + 1) a w) x 1 = nI a from h1, nI_1]
  · rw [if_neg (fun z => by have := (nI_ltI (by omega) (by omega)).mp z; omega), if_neg c]
theorem C_new {x : Nat} {Z g ps vs : Nat → Nat} {K r p o : Nat} {M0 M : gMem} (W : CWd Z g ps vs K r p o M0) (C : CI r o M0 M) {k : Nat} (h6 : mI M r 6 = nI k) (hk : k ≤ K) (hx : isX r x) : f_X6_takeNew Z M r (some x) = if g k = 40 then some ((1 : Int32), at' r (k + 1) (nwM r p x k M)) else some ((0 : Int32), M) := by
  have ho := (W_ho W).2
  obtain ⟨⟨⟨t1, r1, -⟩, ⟨t2, -, -, r4, -, -, -, -, t5, l5⟩, bX, -⟩, T⟩ := W_o W C
  have hK := W.2.2.2.2.2.1
  have q : inb (nI k) 401 := (inbN (by omega)).mpr (by omega)
  have C9 : CI r o M0 (nwM r p x k M) := CI_nw ho hx C
  have h9 : mI (nwM r p x k M) r 6 = nI k := by rw [nw_6 hx]; exact h6
  have t9 : mT (nwM r p x k M) r = 6 := by rw [C9.1.1, ← C.1.1]; exact t1
  obtain ⟨a, a1, a2⟩ := C.2.2.2.2.1 x hx
  have hc : cap r x ≤ 8 := by unfold cap; split <;> omega
  have hcn : cn M x 1 = a := cn_e a2 (by omega)
  unfold f_X6_takeNew b_X6_takeNew_0 b_X6_takeNew_54
  rw [ck_t t1, C_sign W C h6 hk, bd_S]
  by_cases c : g k = 40
  · rw [if_pos (show some (Z (g k)) = some (Z 40) by rw [c]), if_pos c, ck_t t1, dr_s r1, ck_t t2, dr_s r4, ck_t t5, h6, l5, ck_t q, dr_S, ck_t (bX x hx).1, nI_clamp (by omega), C_find W C hx, bd_S]
    have e0 := C_t40 (M1 := M) W C9 h9 hk (by decide) c
    by_cases d : fnd M x (mJ M (p + 4) k) < 0
    · rw [if_pos d, ck_t (bX x hx).1, C_addn W C hx a1 a2]
      by_cases d2 : a < cap r x
      · have e1 : nwM r p x k M = wI (wJ M (x + 1) a (mJ M (p + 4) k)) x 1 (nI (a + 1)) := by unfold nwM; rw [if_pos d, hcn, if_pos d2]
        rw [if_pos d2, bd_S, if_neg (by decide), ← e1, ck_t t9]
        exact e0
      · have e1 : nwM r p x k M = ntM r p 4 k M := by unfold nwM; rw [if_pos d, hcn, if_neg d2]
        rw [if_neg d2, bd_S, if_pos rfl, ck_t t1, C_note W C h6 hk, bd_S, ← e1, ck_t t9]
        exact e0
    · have e1 : nwM r p x k M = ntM r p 2 k M := by unfold nwM; rw [if_neg d]
      rw [if_neg d, ck_t t1, C_note W C h6 hk, bd_S, ← e1, ck_t t9]
      exact e0
  · rw [if_neg (show ¬ some (Z (g k)) = some (Z 40) from fun e => c (W.2.2.2.1 _ _ (W.2.2.2.2.1 k) (by omega) (Option.some.inj e))), if_neg c]

