/-! ## Pure: the reference's reader at m: what it reads is told at t; its small methods -/
def MB (m t : Nat) (M : gMem) : Prop :=
  (mT M m = 13 ∧ mR M m 4 = some (m + 2) ∧ mR M m 7 = some (m + 5) ∧ mR M m 12 = some t ∧ mT M (m + 2) = 20 ∧ mL M (m + 2) = 401 ∧ mT M (m + 5) = 20 ∧ mL M (m + 5) = 401) ∧
  (mT M t = 12 ∧ (∀ k, k < 25 → 0 < tdR k → mR M t k = some (t + tdR k)) ∧ ∀ j, 1 ≤ j → j < 17 → mT M (t + j) = 20 ∧ mL M (t + j) = lenD j) ∧ m + 7 ≤ t
/-- the world that the reference reads in -/
def MWd (g : Nat → Nat) (K m t : Nat) (M : gMem) : Prop :=
  MB m t M ∧ (∀ i, i ≤ K → mI M (m + 2) i = nI (mk (g i))) ∧ (∀ i, g i < 45) ∧ K ≤ 400 ∧ ∀ i, i ≤ K → g i < 42 → i + 1 ≤ K
def MI (m t : Nat) (M0 M : gMem) : Prop :=
  (mT M = mT M0 ∧ mL M = mL M0 ∧ mN M = mN M0 ∧ mR M = mR M0 ∧ mJ M = mJ M0) ∧ (∀ a, a ≠ m → a ≠ m + 5 → (a < t ∨ t + 17 ≤ a) → mI M a = mI M0 a) ∧ ∀ j, j ≠ 9 → j ≠ 10 → mI M m j = mI M0 m j
theorem MI_B {m t : Nat} {M0 M : gMem} (B : MB m t M0) (C : MI m t M0 M) : MB m t M := by
  obtain ⟨⟨h1, h2, -, h4, -⟩, -⟩ := C
  unfold MB
  rw [h1, h2, h4]
  exact B
theorem MI_T {g : Nat → Nat} {K m t : Nat} {M0 M : gMem} (W : MWd g K m t M0) (C : MI m t M0 M) : ∀ i, i ≤ K → mI M (m + 2) i = nI (mk (g i)) := fun i hi => by
  have := W.1.2.2
  rw [C.2.1 (m + 2) (by omega) (by omega) (by omega)]
  exact W.2.1 i hi
theorem MI_w {m t a j : Nat} {v : Int32} {M0 M : gMem} (C : MI m t M0 M) (h : (a = m ∧ (j = 9 ∨ j = 10)) ∨ a = m + 5 ∨ (t ≤ a ∧ a < t + 17)) (ht : m + 7 ≤ t) : MI m t M0 (wI M a j v) := by
  obtain ⟨h1, h2, h3⟩ := C
  refine ⟨h1, fun b b1 b2 b3 => ?_, fun i i1 i2 => ?_⟩
  · rw [← h2 b b1 b2 b3]
    funext i
    exact up2_ne (.inl (by omega))
  · rw [← h3 i i1 i2]
    exact up2_ne (by omega)
def tk' (m k : Nat) (M : gMem) : gMem := wI M m 9 (nI k)
theorem mk_i : ∀ x, x < 45 → (mk x < 1000) ∧ (∀ c, c < 45 → (c ≤ 24 ∨ c = 40 ∨ c = 41) → (mk x = c ↔ x = c)) ∧ (mk x = 900 ↔ x = 42) ∧ (mk x = 300 ↔ x = 38) ∧ (mk x = 301 ↔ x = 39) := by decide +kernel
theorem mk_s : ∀ x, x < 45 → (mk x = 90 ↔ x = 25) ∧ (mk x = 91 ↔ x = 26) ∧ (mk x = 141 ↔ x = 27) ∧ (mk x = 143 ↔ x = 28) ∧ (mk x = 109 ↔ x = 29) ∧ (mk x = 94 ↔ x = 30) ∧ (mk x = 93 ↔ x = 31) ∧ (mk x = 95 ↔ x = 32) ∧ (mk x = 92 ↔ x = 33) ∧ (mk x = 97 ↔ x = 34) ∧ (mk x = 110 ↔ x = 35) ∧ (mk x = 112 ↔ x = 36) ∧ (mk x = 111 ↔ x = 37) := by decide +kernel
theorem M_is {c : Nat} {g : Nat → Nat} {K m t : Nat} {M0 M : gMem} (W : MWd g K m t M0) (C : MI m t M0 M) {k : Nat} (h9 : mI M m 9 = nI k) (hk : k ≤ K) (hc : c < 1000) : f_X14_is M m (nI c) = if mk (g k) = c then some ((1 : Int32), M) else some ((0 : Int32), M) := by
  obtain ⟨⟨t0, r4, -, -, t2, l2, -⟩, -⟩ := MI_B W.1 C
  have hK := W.2.2.2.1
  have q : inb (nI k) 401 := (inbN (by omega)).mpr (by omega)
  have hm := (mk_i (g k) (W.2.2.1 k)).1
  unfold f_X14_is b_X14_is_0 b_X14_is_18
  rw [ck_t t0, dr_s r4, ck_t t2, h9, l2, ck_t q, nI_clamp (by omega), MI_T W C k hk]
  by_cases d : mk (g k) = c
  · rw [if_pos (show nI (mk (g k)) = nI c by rw [d]), if_pos d, ck_t (.inr rfl)]
  · rw [if_neg (nI_ne d (by omega) (by omega)), if_neg d, ck_t (.inl rfl)]
theorem M_isSign {c : Nat} {g : Nat → Nat} {K m t : Nat} {M0 M : gMem} (W : MWd g K m t M0) (C : MI m t M0 M) {k : Nat} (h9 : mI M m 9 = nI k) (hk : k ≤ K) (hc : c < 900) : f_X14_isSign M m (nI c) = if mk (g k) = 50 + c then some ((1 : Int32), M) else some ((0 : Int32), M) := by
  obtain ⟨⟨t0, r4, -, -, t2, l2, -⟩, -⟩ := MI_B W.1 C
  have hK := W.2.2.2.1
  have q : inb (nI k) 401 := (inbN (by omega)).mpr (by omega)
  have hm := (mk_i (g k) (W.2.2.1 k)).1
  unfold f_X14_isSign b_X14_isSign_0 b_X14_isSign_21
  rw [ck_t t0, dr_s r4, ck_t t2, h9, l2, ck_t q, nI_clamp (by omega), MI_T W C k hk, show (50 : Int32) + nI c = nI (50 + c) from nI_add 50 c]
  by_cases d : mk (g k) = 50 + c
  · rw [if_pos (show nI (mk (g k)) = nI (50 + c) by rw [d]), if_pos d, ck_t (.inr rfl)]
  · rw [if_neg (nI_ne d (by omega) (by omega)), if_neg d, ck_t (.inl rfl)]
theorem M_eat {c : Nat} {g : Nat → Nat} {K m t : Nat} {M0 M : gMem} (W : MWd g K m t M0) (C : MI m t M0 M) {k : Nat} (h9 : mI M m 9 = nI k) (hk : k ≤ K) (hc : c < 1000) : f_X14_eat M m (nI c) = if mk (g k) = c then some ((1 : Int32), tk' m (k + 1) M) else some ((0 : Int32), M) := by
  have t0 := (MI_B W.1 C).1.1
  unfold f_X14_eat b_X14_eat_0
  rw [ck_t t0, M_is W C h9 hk hc]
  by_cases d : mk (g k) = c
  · rw [if_pos d, if_pos d, bd_S, if_neg (by decide), ck_t t0, h9, nI_1, lw_S]
    rfl
  · rw [if_neg d, if_neg d, bd_S, if_pos rfl]
theorem M_eatSign {c : Nat} {g : Nat → Nat} {K m t : Nat} {M0 M : gMem} (W : MWd g K m t M0) (C : MI m t M0 M) {k : Nat} (h9 : mI M m 9 = nI k) (hk : k ≤ K) (hc : c < 900) : f_X14_eatSign M m (nI c) = if mk (g k) = 50 + c then some ((1 : Int32), tk' m (k + 1) M) else some ((0 : Int32), M) := by
  have t0 := (MI_B W.1 C).1.1
  unfold f_X14_eatSign b_X14_eatSign_0
  rw [ck_t t0, show (50 : Int32) + nI c = nI (50 + c) from nI_add 50 c, M_eat W C h9 hk (by omega)]
  by_cases d : mk (g k) = 50 + c
  · rw [if_pos d, bd_S, ck_t (.inr rfl)]
  · rw [if_neg d, bd_S, ck_t (.inl rfl)]
def roM (m k : Nat) (v : Int32) (M : gMem) : gMem := wI M (m + 5) k v
theorem M_eatAs {c : Nat} {v : Int32} {g : Nat → Nat} {K m t : Nat} {M0 M : gMem} (W : MWd g K m t M0) (C : MI m t M0 M) {k : Nat} (h9 : mI M m 9 = nI k) (hk : k ≤ K) (hc : c < 1000) : f_X14_eatAs M m (nI c) v = if mk (g k) = c then some ((1 : Int32), tk' m (k + 1) (roM m k v M)) else some ((0 : Int32), roM m k v M) := by
  obtain ⟨⟨t0, -, r7, -, -, -, t5, l5⟩, -, ht⟩ := MI_B W.1 C
  have hK := W.2.2.2.1
  have q : inb (nI k) 401 := (inbN (by omega)).mpr (by omega)
  have C1 : MI m t M0 (roM m k v M) := MI_w C (.inr (.inl rfl)) ht
  have h1 : mI (roM m k v M) m 9 = nI k := by unfold roM; rw [wI_o (.inl (by omega))]; exact h9
  unfold f_X14_eatAs b_X14_eatAs_0
  rw [ck_t t0, dr_s r7, ck_t t5, h9, l5, ck_t q, nI_clamp (by omega), lw_S]
  show (bd (f_X14_eat (roM m k v M) m (nI c)) fun r8 M8 => ck (r8 = 0 ∨ r8 = 1) <| some (r8, M8)) = _
  rw [M_eat W C1 h1 hk hc]
  by_cases d : mk (g k) = c
  · rw [if_pos d, bd_S, ck_t (.inr rfl)]
  · rw [if_neg d, bd_S, ck_t (.inl rfl)]
def puM (t : Nat) (v : Int32) (M : gMem) : gMem := wI (wI M (t + 15) (cn M t 22) v) t 22 (nI (cn M t 22 + 1))
theorem M_put {v : Int32} {L : Nat} {g : Nat → Nat} {K m t : Nat} {M0 M : gMem} (W : MWd g K m t M0) (C : MI m t M0 M) (hL : mI M t 22 = nI L) (hl : L < 800) : f_X14_put M m v = some ((), puM t v M) := by
  obtain ⟨⟨t0, -, -, r12, -⟩, ⟨u0, ur, ut⟩, ht⟩ := MI_B W.1 C
  have q : inb (nI L) 800 := (inbN (by omega)).mpr hl
  have hr : mR M t 21 = some (t + 15) := ur 21 (by omega) (by decide)
  have hc : cn M t 22 = L := cn_e hL (by omega)
  unfold f_X14_put b_X14_put_0 puM
  rw [hc, ck_t t0, dr_s r12, ck_t u0, dr_s hr, ck_t (ut 15 (by omega) (by omega)).1, hL, show mL M (t + 15) = 800 from (ut 15 (by omega) (by omega)).2, ck_t q, nI_clamp (by omega), lw_S, show mR (wI M (t + 15) L v) m 12 = some t from r12, dr_S, ck_t (show mT (wI M (t + 15) L v) t = 12 from u0), wI_o (.inl (by omega)), hL, nI_1, lw_S]
theorem M_deep {d : Nat} {g : Nat → Nat} {K m t : Nat} {M0 M : gMem} (W : MWd g K m t M0) (C : MI m t M0 M) {k : Nat} (h9 : mI M m 9 = nI k) (hk : k ≤ K) (h10 : mI M m 10 = nI d) (hd : d ≤ 8) : f_X14_isDeeper M m = if 8 ≤ d then some ((0 : Int32), M) else some ((1 : Int32), tk' m (k + 1) (wI M m 10 (nI (d + 1)))) := by
  have t0 := (MI_B W.1 C).1.1
  unfold f_X14_isDeeper b_X14_isDeeper_0
  rw [ck_t t0, h10]
  by_cases c : 8 ≤ d
  · rw [if_pos (show nI d = (8 : Int32) by rw [show d = 8 by omega]; rfl), if_pos c]
  · rw [if_neg (show ¬ nI d = (8 : Int32) from nI_ne (b := 8) (by omega) (by omega) (by omega)), if_neg c, lw_S, nI_1, wI_o (.inr (by omega)), h9, nI_1, lw_S]
    rfl
/-- a name behind a word: the word, the place of the operand, the token -/
def nmM (m t : Nat) (v w : Int32) (k : Nat) (M : gMem) : gMem :=
  roM m (k + 1) w (puM t (nI (k + 1)) (wI (wI (tk' m (k + 1) (puM t v M)) (t + 16) (cn M t 24) (nI (cn M t 22 + 1))) t 24 (nI (cn M t 24 + 1))))
theorem M_named {v : Int32} {L n : Nat} {g : Nat → Nat} {K m t : Nat} {M0 M : gMem} (W : MWd g K m t M0) (C : MI m t M0 M) {k : Nat} (h9 : mI M m 9 = nI k) (hk : k ≤ K) (hg : g k < 42) (hL : mI M t 22 = nI L) (hl : L + 1 < 800) (hn : mI M t 24 = nI n) (hn4 : n < 400) : f_X14_isNamed M m v = if g (k + 1) = 40 then some ((1 : Int32), tk' m (k + 2) (nmM m t (nI (mk (g k))) v k M)) else some ((0 : Int32), nmM m t (nI (mk (g k))) v k M) := by
  obtain ⟨⟨t0, r4, -, r12, t2, l2, -⟩, ⟨u0, ur, ut⟩, ht⟩ := MI_B W.1 C
  have hK := W.2.2.2.1
  have hk1 := W.2.2.2.2 k hk hg
  have q : inb (nI k) 401 := (inbN (by omega)).mpr (by omega)
  have q2 : inb (nI n) 400 := (inbN (by omega)).mpr hn4
  have hr : mR M t 23 = some (t + 16) := ur 23 (by omega) (by decide)
  have hcL : cn M t 22 = L := cn_e hL (by omega)
  have hcn : cn M t 24 = n := cn_e hn (by omega)
  have C1 : MI m t M0 (puM t (nI (mk (g k))) M) := MI_w (MI_w C (.inr (.inr (by omega))) ht) (.inr (.inr (by omega))) ht
  have h1 : mI (puM t (nI (mk (g k))) M) m 9 = nI k := by unfold puM; rw [wI_o (.inl (by omega)), wI_o (.inl (by omega))]; exact h9
  have hL1 : mI (puM t (nI (mk (g k))) M) t 22 = nI (L + 1) := by unfold puM; rw [wI_e, hcL]
  have hn1 : mI (puM t (nI (mk (g k))) M) t 24 = nI n := by unfold puM; rw [wI_o (.inr (by omega)), wI_o (.inl (by omega))]; exact hn
  have tT1 : mT (puM t (nI (mk (g k))) M) = mT M := rfl
  have tL1 : mL (puM t (nI (mk (g k))) M) = mL M := rfl
  have tR1 : mR (puM t (nI (mk (g k))) M) = mR M := rfl
  unfold f_X14_isNamed b_X14_isNamed_0 nmM
  rw [hcL, hcn, ck_t t0, dr_s r4, ck_t t2, h9, l2, ck_t q, nI_clamp (by omega), MI_T W C k hk, M_put W C hL (by omega), bd_S]
  generalize puM t (nI (mk (g k))) M = M1 at C1 h1 hL1 hn1 tT1 tL1 tR1
  have C2 : MI m t M0 (tk' m (k + 1) M1) := MI_w C1 (.inl (by omega)) ht
  have e9 : wI M1 m 9 (mI M1 m 9 + 1) = tk' m (k + 1) M1 := by rw [h1, nI_1]; rfl
  have hL2 : mI (tk' m (k + 1) M1) t 22 = nI (L + 1) := by unfold tk'; rw [wI_o (.inl (by omega))]; exact hL1
  have hn2 : mI (tk' m (k + 1) M1) t 24 = nI n := by unfold tk'; rw [wI_o (.inl (by omega))]; exact hn1
  have h2 : mI (tk' m (k + 1) M1) m 9 = nI (k + 1) := wI_e _ _ _ _
  have tT2 : mT (tk' m (k + 1) M1) = mT M := tT1
  have tL2 : mL (tk' m (k + 1) M1) = mL M := tL1
  have tR2 : mR (tk' m (k + 1) M1) = mR M := tR1
  rw [tT1, ck_t t0, e9, lw_S]
  generalize tk' m (k + 1) M1 = M2 at C2 hL2 hn2 h2 tT2 tL2 tR2
  have C3 : MI m t M0 (wI (wI M2 (t + 16) n (nI (L + 1))) t 24 (nI (n + 1))) := MI_w (MI_w C2 (.inr (.inr (by omega))) ht) (.inr (.inr (by omega))) ht
  have h3 : mI (wI (wI M2 (t + 16) n (nI (L + 1))) t 24 (nI (n + 1))) m 9 = nI (k + 1) := by rw [wI_o (.inl (by omega)), wI_o (.inl (by omega))]; exact h2
  have hL3 : mI (wI (wI M2 (t + 16) n (nI (L + 1))) t 24 (nI (n + 1))) t 22 = nI (L + 1) := by rw [wI_o (.inr (by omega)), wI_o (.inl (by omega))]; exact hL2
  have e24 : mI (wI M2 (t + 16) n (nI (L + 1))) t 24 = nI n := by rw [wI_o (.inl (by omega))]; exact hn2
  rw [tR2, dr_s r12, tT2, ck_t u0, dr_s hr, ck_t (ut 16 (by omega) (by omega)).1, hn2, tL2, show mL M (t + 16) = 400 from (ut 16 (by omega) (by omega)).2, ck_t q2, nI_clamp (by omega), hL2, lw_S, show mR (wI M2 (t + 16) n (nI (L + 1))) m 12 = some t from (by show mR M2 m 12 = some t; rw [tR2]; exact r12), dr_S, ck_t (show mT (wI M2 (t + 16) n (nI (L + 1))) t = 12 from (by show mT M2 t = 12; rw [tT2]; exact u0)), e24, nI_1, lw_S]
  have C4 : MI m t M0 (puM t (nI (k + 1)) (wI (wI M2 (t + 16) n (nI (L + 1))) t 24 (nI (n + 1)))) := MI_w (MI_w C3 (.inr (.inr (by omega))) ht) (.inr (.inr (by omega))) ht
  have h4 : mI (puM t (nI (k + 1)) (wI (wI M2 (t + 16) n (nI (L + 1))) t 24 (nI (n + 1)))) m 9 = nI (k + 1) := by unfold puM; rw [wI_o (.inl (by omega)), wI_o (.inl (by omega))]; exact h3
  rw [h3, M_put W C3 hL3 (by omega), bd_S]
  have t4 : mT (puM t (nI (k + 1)) (wI (wI M2 (t + 16) n (nI (L + 1))) t 24 (nI (n + 1)))) m = 13 := (MI_B W.1 C4).1.1
  rw [ck_t t4, show (40 : Int32) = nI 40 from rfl, M_eatAs W C4 h4 hk1 (by decide)]
  have i40 := ((mk_i (g (k + 1)) (W.2.2.1 (k + 1))).2.1 40 (by decide) (by decide))
  by_cases d : g (k + 1) = 40
  · rw [if_pos (i40.mpr d), if_pos d, bd_S, ck_t (.inr rfl)]
  · rw [if_neg (fun z => d (i40.mp z)), if_neg d, bd_S, ck_t (.inl rfl)]
