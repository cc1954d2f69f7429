/-! ## Pure: the reference's errors, role by role -/
theorem g_40 {g vs ro : Nat → Nat} {K m t : Nat} {M0 : gMem} (W : P2W g vs ro K m t M0) {x : Nat} (hx : x ≤ K) (h : ro x = 1 ∨ ro x = 2 ∨ ro x = 3 ∨ 10 ≤ ro x) : g x = 40 := by
  rw [W.2.2.2.1 x hx (by omega) (by omega), if_neg (by omega)]
theorem g_41 {g vs ro : Nat → Nat} {K m t : Nat} {M0 : gMem} (W : P2W g vs ro K m t M0) {x : Nat} (hx : x ≤ K) (h : 5 ≤ ro x ∧ ro x ≤ 9) : g x = 41 := by
  rw [W.2.2.2.1 x hx (by omega) (by omega), if_pos h]
theorem E_0 {g vs ro : Nat → Nat} {K m t : Nat} {M0 : gMem} (W : P2W g vs ro K m t M0) {x : Nat} {M : gMem} (C : M2I m t M0 M) (hx : x ≤ K) (hr : ro x = 0) : f_X14_errorOf M m (nI x) = some ((0 : Int32), M) := by
  obtain ⟨⟨⟨t0, -, r7, r12, -, -, t5, l5⟩, ⟨u0, ur, ut⟩, ht⟩, r8, t6, l6⟩ := M2_B W.1 C
  have hK := W.2.2.1; have q : inb (nI x) 401 := (inbN (by omega)).mpr (by omega); have hcl : (nI x).toNatClampNeg = x := nI_clamp (by omega); have hro : mI M (m + 5) (nI x).toNatClampNeg = nI (ro x) := (by rw [hcl]; exact P2_ro W C hx); rw [hr] at hro
  unfold f_X14_errorOf b_X14_errorOf_0
  rw [ck_t t0, dr_s r12, ck_t u0, dr_s r7, ck_t t5, l5, ck_t q, hro, if_neg (by decide), if_neg (by decide), if_neg (by decide), if_neg (by decide), if_neg (by decide), if_neg (by decide), if_neg (by decide), if_neg (by decide), if_neg (by decide), if_neg (by decide), if_neg (by decide), if_neg (by decide), if_neg (by decide), if_neg (by decide), if_neg (by decide)]
theorem E_1 {g vs ro : Nat → Nat} {K m t : Nat} {M0 : gMem} (W : P2W g vs ro K m t M0) {x : Nat} {M : gMem} (C : M2I m t M0 M) (hx : x ≤ K) (hr : ro x = 1) {n : Nat} (hn : mI M t 0 = nI n) (h8 : n ≤ 8) : f_X14_errorOf M m (nI x) = if tdS ro vs 1 (vs x) x 0 0 = none then (if n = 8 then some ((4 : Int32), M) else some ((0 : Int32), wI (wI M t 0 (nI (n + 1))) t 3 0)) else some ((2 : Int32), M) := by
  obtain ⟨⟨⟨t0, -, r7, r12, -, -, t5, l5⟩, ⟨u0, ur, ut⟩, ht⟩, r8, t6, l6⟩ := M2_B W.1 C
  have hK := W.2.2.1; have q : inb (nI x) 401 := (inbN (by omega)).mpr (by omega); have hcl : (nI x).toNatClampNeg = x := nI_clamp (by omega); have hro : mI M (m + 5) (nI x).toNatClampNeg = nI (ro x) := (by rw [hcl]; exact P2_ro W C hx); rw [hr] at hro
  unfold f_X14_errorOf b_X14_errorOf_0
  rw [ck_t t0, dr_s r12, ck_t u0, dr_s r7, ck_t t5, l5, ck_t q, hro, if_pos (show nI 1 = (1 : Int32) from rfl), show f_X14_told M m (nI x) (1 : Int32) = _ from M_told (w := 1) W C hx (g_40 W hx (by omega)) (by decide), bd_S]
  cases h : tdS ro vs 1 (vs x) x 0 0 with
  | none =>
    rw [if_pos (show tdV none = (-1 : Int32) from rfl), if_pos rfl, ck_t u0, hn]
    by_cases c : n = 8
    · rw [if_pos (show nI n = (8 : Int32) by rw [c]; rfl), if_pos c]
    · rw [if_neg (show ¬ nI n = (8 : Int32) from nI_ne (b := 8) c (by omega) (by omega)), if_neg c, lw_S, lw_S, nI_1]
  | some k =>
    have hk : k < 2 ^ 31 := by have := tdS_lt h; omega
    rw [if_neg (show ¬ tdV (some k) = (-1 : Int32) from fun z => nI_nm1 hk z), if_neg (by intro z; cases z)]
theorem E_2 {g vs ro : Nat → Nat} {K m t : Nat} {M0 : gMem} (W : P2W g vs ro K m t M0) {x : Nat} {M : gMem} (C : M2I m t M0 M) (hx : x ≤ K) (hr : ro x = 2) {n : Nat} (hn : mI M t 4 = nI n) (h8 : n ≤ 8) : f_X14_errorOf M m (nI x) = if tdS ro vs 2 (vs x) x 0 0 = none then (if n = 8 then some ((4 : Int32), M) else some ((0 : Int32), wI M t 4 (nI (n + 1)))) else some ((2 : Int32), M) := by
  obtain ⟨⟨⟨t0, -, r7, r12, -, -, t5, l5⟩, ⟨u0, ur, ut⟩, ht⟩, r8, t6, l6⟩ := M2_B W.1 C
  have hK := W.2.2.1; have q : inb (nI x) 401 := (inbN (by omega)).mpr (by omega); have hcl : (nI x).toNatClampNeg = x := nI_clamp (by omega); have hro : mI M (m + 5) (nI x).toNatClampNeg = nI (ro x) := (by rw [hcl]; exact P2_ro W C hx); rw [hr] at hro
  unfold f_X14_errorOf b_X14_errorOf_0
  rw [ck_t t0, dr_s r12, ck_t u0, dr_s r7, ck_t t5, l5, ck_t q, hro, if_neg (by decide), if_pos (show nI 2 = (2 : Int32) from rfl), show f_X14_told M m (nI x) (2 : Int32) = _ from M_told (w := 2) W C hx (g_40 W hx (by omega)) (by decide), bd_S]
  cases h : tdS ro vs 2 (vs x) x 0 0 with
  | none =>
    rw [if_pos (show tdV none = (-1 : Int32) from rfl), if_pos rfl, ck_t u0, hn]
    by_cases c : n = 8
    · rw [if_pos (show nI n = (8 : Int32) by rw [c]; rfl), if_pos c]
    · rw [if_neg (show ¬ nI n = (8 : Int32) from nI_ne (b := 8) c (by omega) (by omega)), if_neg c, lw_S, nI_1]
  | some k =>
    have hk : k < 2 ^ 31 := by have := tdS_lt h; omega
    rw [if_neg (show ¬ tdV (some k) = (-1 : Int32) from fun z => nI_nm1 hk z), if_neg (by intro z; cases z)]
theorem E_3 {g vs ro : Nat → Nat} {K m t : Nat} {M0 : gMem} (W : P2W g vs ro K m t M0) {x : Nat} {M : gMem} (C : M2I m t M0 M) (hx : x ≤ K) (hr : ro x = 3) {n : Nat} (hn : mI M t 11 = nI n) (h8 : n ≤ 6) : f_X14_errorOf M m (nI x) = if tdS ro vs 3 (vs x) x 0 0 = none then (if n = 6 then some ((4 : Int32), M) else some ((0 : Int32), wI (wI M (t + 8) n (-1)) t 11 (nI (n + 1)))) else some ((2 : Int32), M) := by
  obtain ⟨⟨⟨t0, -, r7, r12, -, -, t5, l5⟩, ⟨u0, ur, ut⟩, ht⟩, r8, t6, l6⟩ := M2_B W.1 C
  have hK := W.2.2.1; have q : inb (nI x) 401 := (inbN (by omega)).mpr (by omega); have hcl : (nI x).toNatClampNeg = x := nI_clamp (by omega); have hro : mI M (m + 5) (nI x).toNatClampNeg = nI (ro x) := (by rw [hcl]; exact P2_ro W C hx); rw [hr] at hro
  unfold f_X14_errorOf b_X14_errorOf_0
  rw [ck_t t0, dr_s r12, ck_t u0, dr_s r7, ck_t t5, l5, ck_t q, hro, if_neg (by decide), if_neg (by decide), if_pos (show nI 3 = (3 : Int32) from rfl), show f_X14_told M m (nI x) (3 : Int32) = _ from M_told (w := 3) W C hx (g_40 W hx (by omega)) (by decide), bd_S]
  cases h : tdS ro vs 3 (vs x) x 0 0 with
  | none =>
    rw [if_pos (show tdV none = (-1 : Int32) from rfl), if_pos rfl, ck_t u0, hn]
    by_cases c : n = 6
    · rw [if_pos (show nI n = (6 : Int32) by rw [c]; rfl), if_pos c]
    · have q2 : inb (nI n) 6 := (inbN (by omega)).mpr (by omega)
      rw [if_neg (show ¬ nI n = (6 : Int32) from nI_ne (b := 6) c (by omega) (by omega)), if_neg c, dr_s (show mR M t 12 = some (t + 8) from ur 12 (by omega) (by decide)), ck_t (ut 8 (by omega) (by omega)).1, show mL M (t + 8) = 6 from (ut 8 (by omega) (by omega)).2, ck_t q2, nI_clamp (by omega), lw_S, wI_o (.inl (by omega)), hn, nI_1, lw_S]
  | some k =>
    have hk : k < 2 ^ 31 := by have := tdS_lt h; omega
    rw [if_neg (show ¬ tdV (some k) = (-1 : Int32) from fun z => nI_nm1 hk z), if_neg (by intro z; cases z)]
theorem E_4 {g vs ro : Nat → Nat} {K m t : Nat} {M0 : gMem} (W : P2W g vs ro K m t M0) {x : Nat} {M : gMem} (C : M2I m t M0 M) (hx : x ≤ K) (hr : ro x = 4) {n : Nat} (hn : mI M t 8 = nI n) (h8 : n ≤ 24) : f_X14_errorOf M m (nI x) = if n = 24 then some ((4 : Int32), M) else some ((0 : Int32), wI M t 8 (nI (n + 1))) := by
  obtain ⟨⟨⟨t0, -, r7, r12, -, -, t5, l5⟩, ⟨u0, ur, ut⟩, ht⟩, r8, t6, l6⟩ := M2_B W.1 C
  have hK := W.2.2.1; have q : inb (nI x) 401 := (inbN (by omega)).mpr (by omega); have hcl : (nI x).toNatClampNeg = x := nI_clamp (by omega); have hro : mI M (m + 5) (nI x).toNatClampNeg = nI (ro x) := (by rw [hcl]; exact P2_ro W C hx); rw [hr] at hro
  unfold f_X14_errorOf b_X14_errorOf_0
  rw [ck_t t0, dr_s r12, ck_t u0, dr_s r7, ck_t t5, l5, ck_t q, hro, if_neg (by decide), if_neg (by decide), if_neg (by decide), if_pos (show nI 4 = (4 : Int32) from rfl), hn]
  by_cases c : n = 24
  · rw [if_pos (show nI n = (24 : Int32) by rw [c]; rfl), if_pos c]
  · rw [if_neg (show ¬ nI n = (24 : Int32) from nI_ne (b := 24) c (by omega) (by omega)), if_neg c, lw_S, nI_1]
theorem E_5 {g vs ro : Nat → Nat} {K m t : Nat} {M0 : gMem} (W : P2W g vs ro K m t M0) {x : Nat} {M : gMem} (C : M2I m t M0 M) (hx : x ≤ K) (hr : ro x = 5) {n : Nat} (hn : mI M t 0 = nI (n + 1)) (h8 : n < 8) : f_X14_errorOf M m (nI x) = some (if 1 ≤ vs x ∧ vs x ≤ 8 then (0 : Int32) else 5, wI M (t + 1) n (nI (vs x))) := by
  obtain ⟨⟨⟨t0, -, r7, r12, -, -, t5, l5⟩, ⟨u0, ur, ut⟩, ht⟩, r8, t6, l6⟩ := M2_B W.1 C
  have hK := W.2.2.1; have q : inb (nI x) 401 := (inbN (by omega)).mpr (by omega); have hcl : (nI x).toNatClampNeg = x := nI_clamp (by omega); have hro : mI M (m + 5) (nI x).toNatClampNeg = nI (ro x) := (by rw [hcl]; exact P2_ro W C hx); rw [hr] at hro
  have hg := g_41 W hx (by omega)
  have q2 : inb (nI n) 8 := (inbN (by omega)).mpr (by omega)
  have C1 : M2I m t M0 (wI M (t + 1) n (nI (vs x))) := M2_w ht C (.inr (.inr (.inl (by omega))))
  unfold f_X14_errorOf b_X14_errorOf_0
  rw [ck_t t0, dr_s r12, ck_t u0, dr_s r7, ck_t t5, l5, ck_t q, hro, if_neg (by decide), if_neg (by decide), if_neg (by decide), if_neg (by decide), if_pos (show nI 5 = (5 : Int32) from rfl), W.2.2.2.2.1 M x C hx hg, bd_S, dr_s (show mR M t 1 = some (t + 1) from ur 1 (by omega) (by decide)), ck_t (ut 1 (by omega) (by omega)).1, hn, su1, show mL M (t + 1) = 8 from (ut 1 (by omega) (by omega)).2, ck_t q2, nI_clamp (by omega), lw_S, ck_t (show mT (wI M (t + 1) n (nI (vs x))) m = 13 from t0), show f_X14_inRange (wI M (t + 1) n (nI (vs x))) m (nI x) (1 : Int32) (8 : Int32) = _ from M_range (lo := 1) (hi := 8) W C1 hx hg (by decide) (by decide), bd_S]
theorem E_6 {g vs ro : Nat → Nat} {K m t : Nat} {M0 : gMem} (W : P2W g vs ro K m t M0) {x : Nat} {M : gMem} (C : M2I m t M0 M) (hx : x ≤ K) (hr : ro x = 6) {n s : Nat} (hn : mI M t 0 = nI (n + 1)) (h8 : n < 8) (hs : mI M t 3 = nI s) (h5 : s ≤ 5) : f_X14_errorOf M m (nI x) = if s = 5 then some ((4 : Int32), M) else some (if vs x ≤ 99 then (0 : Int32) else 5, wI (wI M (t + 2) (5 * n + s) (nI (vs x))) t 3 (nI (s + 1))) := by
  obtain ⟨⟨⟨t0, -, r7, r12, -, -, t5, l5⟩, ⟨u0, ur, ut⟩, ht⟩, r8, t6, l6⟩ := M2_B W.1 C
  have hK := W.2.2.1; have q : inb (nI x) 401 := (inbN (by omega)).mpr (by omega); have hcl : (nI x).toNatClampNeg = x := nI_clamp (by omega); have hro : mI M (m + 5) (nI x).toNatClampNeg = nI (ro x) := (by rw [hcl]; exact P2_ro W C hx); rw [hr] at hro
  have hg := g_41 W hx (by omega)
  unfold f_X14_errorOf b_X14_errorOf_0
  rw [ck_t t0, dr_s r12, ck_t u0, dr_s r7, ck_t t5, l5, ck_t q, hro, if_neg (by decide), if_neg (by decide), if_neg (by decide), if_neg (by decide), if_neg (by decide), if_pos (show nI 6 = (6 : Int32) from rfl), hs]
  by_cases c : s = 5
  · rw [if_pos (show nI s = (5 : Int32) by rw [c]; rfl), if_pos c]
  · have q2 : inb (nI (5 * n + s)) 40 := (inbN (by omega)).mpr (by omega)
    have C1 : M2I m t M0 (wI (wI M (t + 2) (5 * n + s) (nI (vs x))) t 3 (nI (s + 1))) := M2_w ht (M2_w ht C (.inr (.inr (.inl (by omega))))) (.inr (.inr (.inr (by omega))))
    have e1 : (5 : Int32) * (nI (n + 1) - (1 : Int32)) + nI s = nI (5 * n + s) := by
      rw [su1, show (5 : Int32) = nI 5 from rfl, nI_mul, nI_add]
    rw [if_neg (show ¬ nI s = (5 : Int32) from nI_ne (b := 5) c (by omega) (by omega)), if_neg c, W.2.2.2.2.1 M x C hx hg, bd_S, dr_s (show mR M t 2 = some (t + 2) from ur 2 (by omega) (by decide)), ck_t (ut 2 (by omega) (by omega)).1, hn, e1, show mL M (t + 2) = 40 from (ut 2 (by omega) (by omega)).2, ck_t q2, nI_clamp (by omega), lw_S, ck_t (show mT (wI M (t + 2) (5 * n + s) (nI (vs x))) t = 12 from u0), wI_o (.inl (by omega)), hs, nI_1, lw_S, ck_t (show mT (wI (wI M (t + 2) (5 * n + s) (nI (vs x))) t 3 (nI (s + 1))) m = 13 from t0), show f_X14_inRange (wI (wI M (t + 2) (5 * n + s) (nI (vs x))) t 3 (nI (s + 1))) m (nI x) (0 : Int32) (99 : Int32) = _ from M_range (lo := 0) (hi := 99) W C1 hx hg (by decide) (by decide), bd_S]
    by_cases c9 : vs x ≤ 99
    · rw [if_pos c9, if_pos (show 0 ≤ vs x ∧ vs x ≤ 99 from ⟨Nat.zero_le _, c9⟩)]
    · rw [if_neg c9, if_neg (show ¬ (0 ≤ vs x ∧ vs x ≤ 99) from fun z => c9 z.2)]
theorem E_7 {g vs ro : Nat → Nat} {K m t : Nat} {M0 : gMem} (W : P2W g vs ro K m t M0) {x : Nat} {M : gMem} (C : M2I m t M0 M) (hx : x ≤ K) (hr : ro x = 7) {n : Nat} (hn : mI M t 4 = nI (n + 1)) (h8 : n < 8) : f_X14_errorOf M m (nI x) = some (if 1 ≤ vs x ∧ vs x ≤ 5 then (0 : Int32) else 5, wI M (t + 3) n (nI (vs x))) := by
  obtain ⟨⟨⟨t0, -, r7, r12, -, -, t5, l5⟩, ⟨u0, ur, ut⟩, ht⟩, r8, t6, l6⟩ := M2_B W.1 C
  have hK := W.2.2.1; have q : inb (nI x) 401 := (inbN (by omega)).mpr (by omega); have hcl : (nI x).toNatClampNeg = x := nI_clamp (by omega); have hro : mI M (m + 5) (nI x).toNatClampNeg = nI (ro x) := (by rw [hcl]; exact P2_ro W C hx); rw [hr] at hro
  have hg := g_41 W hx (by omega)
  have q2 : inb (nI n) 8 := (inbN (by omega)).mpr (by omega)
  have C1 : M2I m t M0 (wI M (t + 3) n (nI (vs x))) := M2_w ht C (.inr (.inr (.inl (by omega))))
  unfold f_X14_errorOf b_X14_errorOf_0
  rw [ck_t t0, dr_s r12, ck_t u0, dr_s r7, ck_t t5, l5, ck_t q, hro, if_neg (by decide), if_neg (by decide), if_neg (by decide), if_neg (by decide), if_neg (by decide), if_neg (by decide), if_pos (show nI 7 = (7 : Int32) from rfl), W.2.2.2.2.1 M x C hx hg, bd_S, dr_s (show mR M t 5 = some (t + 3) from ur 5 (by omega) (by decide)), ck_t (ut 3 (by omega) (by omega)).1, hn, su1, show mL M (t + 3) = 8 from (ut 3 (by omega) (by omega)).2, ck_t q2, nI_clamp (by omega), lw_S, ck_t (show mT (wI M (t + 3) n (nI (vs x))) m = 13 from t0), show f_X14_inRange (wI M (t + 3) n (nI (vs x))) m (nI x) (1 : Int32) (5 : Int32) = _ from M_range (lo := 1) (hi := 5) W C1 hx hg (by decide) (by decide), bd_S]
theorem E_8 {g vs ro : Nat → Nat} {K m t : Nat} {M0 : gMem} (W : P2W g vs ro K m t M0) {x : Nat} {M : gMem} (C : M2I m t M0 M) (hx : x ≤ K) (hr : ro x = 8) {n : Nat} (hn : mI M t 4 = nI (n + 1)) (h8 : n < 8) : f_X14_errorOf M m (nI x) = some (if 1 ≤ vs x ∧ vs x ≤ 99 then (0 : Int32) else 5, wI M (t + 4) n (nI (vs x))) := by
  obtain ⟨⟨⟨t0, -, r7, r12, -, -, t5, l5⟩, ⟨u0, ur, ut⟩, ht⟩, r8, t6, l6⟩ := M2_B W.1 C
  have hK := W.2.2.1; have q : inb (nI x) 401 := (inbN (by omega)).mpr (by omega); have hcl : (nI x).toNatClampNeg = x := nI_clamp (by omega); have hro : mI M (m + 5) (nI x).toNatClampNeg = nI (ro x) := (by rw [hcl]; exact P2_ro W C hx); rw [hr] at hro
  have hg := g_41 W hx (by omega)
  have q2 : inb (nI n) 8 := (inbN (by omega)).mpr (by omega)
  have C1 : M2I m t M0 (wI M (t + 4) n (nI (vs x))) := M2_w ht C (.inr (.inr (.inl (by omega))))
  unfold f_X14_errorOf b_X14_errorOf_0
  rw [ck_t t0, dr_s r12, ck_t u0, dr_s r7, ck_t t5, l5, ck_t q, hro, if_neg (by decide), if_neg (by decide), if_neg (by decide), if_neg (by decide), if_neg (by decide), if_neg (by decide), if_neg (by decide), if_pos (show nI 8 = (8 : Int32) from rfl), W.2.2.2.2.1 M x C hx hg, bd_S, dr_s (show mR M t 6 = some (t + 4) from ur 6 (by omega) (by decide)), ck_t (ut 4 (by omega) (by omega)).1, hn, su1, show mL M (t + 4) = 8 from (ut 4 (by omega) (by omega)).2, ck_t q2, nI_clamp (by omega), lw_S, ck_t (show mT (wI M (t + 4) n (nI (vs x))) m = 13 from t0), show f_X14_inRange (wI M (t + 4) n (nI (vs x))) m (nI x) (1 : Int32) (99 : Int32) = _ from M_range (lo := 1) (hi := 99) W C1 hx hg (by decide) (by decide), bd_S]
theorem E_9 {g vs ro : Nat → Nat} {K m t : Nat} {M0 : gMem} (W : P2W g vs ro K m t M0) {x : Nat} {M : gMem} (C : M2I m t M0 M) (hx : x ≤ K) (hr : ro x = 9) {n : Nat} (hn : mI M t 4 = nI (n + 1)) (h8 : n < 8) : f_X14_errorOf M m (nI x) = some (if 1 ≤ vs x ∧ vs x ≤ 40 then (0 : Int32) else 5, wI M (t + 5) n (nI (vs x))) := by
  obtain ⟨⟨⟨t0, -, r7, r12, -, -, t5, l5⟩, ⟨u0, ur, ut⟩, ht⟩, r8, t6, l6⟩ := M2_B W.1 C
  have hK := W.2.2.1; have q : inb (nI x) 401 := (inbN (by omega)).mpr (by omega); have hcl : (nI x).toNatClampNeg = x := nI_clamp (by omega); have hro : mI M (m + 5) (nI x).toNatClampNeg = nI (ro x) := (by rw [hcl]; exact P2_ro W C hx); rw [hr] at hro
  have hg := g_41 W hx (by omega)
  have q2 : inb (nI n) 8 := (inbN (by omega)).mpr (by omega)
  have C1 : M2I m t M0 (wI M (t + 5) n (nI (vs x))) := M2_w ht C (.inr (.inr (.inl (by omega))))
  unfold f_X14_errorOf b_X14_errorOf_0
  rw [ck_t t0, dr_s r12, ck_t u0, dr_s r7, ck_t t5, l5, ck_t q, hro, if_neg (by decide), if_neg (by decide), if_neg (by decide), if_neg (by decide), if_neg (by decide), if_neg (by decide), if_neg (by decide), if_neg (by decide), if_pos (show nI 9 = (9 : Int32) from rfl), W.2.2.2.2.1 M x C hx hg, bd_S, dr_s (show mR M t 7 = some (t + 5) from ur 7 (by omega) (by decide)), ck_t (ut 5 (by omega) (by omega)).1, hn, su1, show mL M (t + 5) = 8 from (ut 5 (by omega) (by omega)).2, ck_t q2, nI_clamp (by omega), lw_S, ck_t (show mT (wI M (t + 5) n (nI (vs x))) m = 13 from t0), show f_X14_inRange (wI M (t + 5) n (nI (vs x))) m (nI x) (1 : Int32) (40 : Int32) = _ from M_range (lo := 1) (hi := 40) W C1 hx hg (by decide) (by decide), bd_S]
/-- a row where what was found is kept, too -/
theorem E_10 {g vs ro : Nat → Nat} {K m t : Nat} {M0 : gMem} (W : P2W g vs ro K m t M0) {x : Nat} {M : gMem} (C : M2I m t M0 M) (hx : x ≤ K) (hr : ro x = 10) {n : Nat} (hn : mI M t 8 = nI (n + 1)) (h8 : n < 24) : f_X14_errorOf M m (nI x) = some (if tdS ro vs 2 (vs x) x 0 0 = none then (3 : Int32) else 0, wI (wI M (m + 6) x (tdV (tdS ro vs 2 (vs x) x 0 0))) (t + 6) n (tdV (tdS ro vs 2 (vs x) x 0 0))) := by
  obtain ⟨⟨⟨t0, -, r7, r12, -, -, t5, l5⟩, ⟨u0, ur, ut⟩, ht⟩, r8, t6, l6⟩ := M2_B W.1 C
  have hK := W.2.2.1; have q : inb (nI x) 401 := (inbN (by omega)).mpr (by omega); have hcl : (nI x).toNatClampNeg = x := nI_clamp (by omega); have hro : mI M (m + 5) (nI x).toNatClampNeg = nI (ro x) := (by rw [hcl]; exact P2_ro W C hx); rw [hr] at hro
  have q2 : inb (nI n) 24 := (inbN (by omega)).mpr (by omega)
  unfold f_X14_errorOf b_X14_errorOf_0
  rw [ck_t t0, dr_s r12, ck_t u0, dr_s r7, ck_t t5, l5, ck_t q, hro, if_neg (by decide), if_neg (by decide), if_neg (by decide), if_neg (by decide), if_neg (by decide), if_neg (by decide), if_neg (by decide), if_neg (by decide), if_neg (by decide), if_pos (show nI 10 = (10 : Int32) from rfl), show f_X14_look M m (nI x) (2 : Int32) = _ from (M_look (w := 2) W C hx (g_40 W hx (by omega)) (by decide)).1, bd_S]
  generalize hv : tdV (tdS ro vs 2 (vs x) x 0 0) = v
  rw [ck_t (show mT (wI M (m + 6) x v) t = 12 from u0), ck_t (show mT (wI M (m + 6) x v) m = 13 from t0), show mR (wI M (m + 6) x v) m 8 = some (m + 6) from r8, dr_S, ck_t (show mT (wI M (m + 6) x v) (m + 6) = 20 from t6), show mL (wI M (m + 6) x v) (m + 6) = 401 from l6, ck_t q, dr_s (show mR (wI M (m + 6) x v) t 9 = some (t + 6) from ur 9 (by omega) (by decide)), ck_t (show mT (wI M (m + 6) x v) (t + 6) = 20 from (ut 6 (by omega) (by omega)).1), show mI (wI M (m + 6) x v) t 8 = nI (n + 1) from (wI_o (.inl (by omega))).trans hn, su1, show mL (wI M (m + 6) x v) (t + 6) = 24 from (ut 6 (by omega) (by omega)).2, ck_t q2, nI_clamp (by omega), lw_S, hcl, wI_e]
theorem E_11 {g vs ro : Nat → Nat} {K m t : Nat} {M0 : gMem} (W : P2W g vs ro K m t M0) {x : Nat} {M : gMem} (C : M2I m t M0 M) (hx : x ≤ K) (hr : ro x = 11) {n : Nat} (hn : mI M t 8 = nI (n + 1)) (h8 : n < 24) : f_X14_errorOf M m (nI x) = some (if tdS ro vs 1 (vs x) x 0 0 = none then (3 : Int32) else 0, wI (wI M (m + 6) x (tdV (tdS ro vs 1 (vs x) x 0 0))) (t + 7) n (tdV (tdS ro vs 1 (vs x) x 0 0))) := by
  obtain ⟨⟨⟨t0, -, r7, r12, -, -, t5, l5⟩, ⟨u0, ur, ut⟩, ht⟩, r8, t6, l6⟩ := M2_B W.1 C
  have hK := W.2.2.1; have q : inb (nI x) 401 := (inbN (by omega)).mpr (by omega); have hcl : (nI x).toNatClampNeg = x := nI_clamp (by omega); have hro : mI M (m + 5) (nI x).toNatClampNeg = nI (ro x) := (by rw [hcl]; exact P2_ro W C hx); rw [hr] at hro
  have q2 : inb (nI n) 24 := (inbN (by omega)).mpr (by omega)
  unfold f_X14_errorOf b_X14_errorOf_0
  rw [ck_t t0, dr_s r12, ck_t u0, dr_s r7, ck_t t5, l5, ck_t q, hro, if_neg (by decide), if_neg (by decide), if_neg (by decide), if_neg (by decide), if_neg (by decide), if_neg (by decide), if_neg (by decide), if_neg (by decide), if_neg (by decide), if_neg (by decide), if_pos (show nI 11 = (11 : Int32) from rfl), show f_X14_look M m (nI x) (1 : Int32) = _ from (M_look (w := 1) W C hx (g_40 W hx (by omega)) (by decide)).1, bd_S]
  generalize hv : tdV (tdS ro vs 1 (vs x) x 0 0) = v
  rw [ck_t (show mT (wI M (m + 6) x v) t = 12 from u0), ck_t (show mT (wI M (m + 6) x v) m = 13 from t0), show mR (wI M (m + 6) x v) m 8 = some (m + 6) from r8, dr_S, ck_t (show mT (wI M (m + 6) x v) (m + 6) = 20 from t6), show mL (wI M (m + 6) x v) (m + 6) = 401 from l6, ck_t q, dr_s (show mR (wI M (m + 6) x v) t 10 = some (t + 7) from ur 10 (by omega) (by decide)), ck_t (show mT (wI M (m + 6) x v) (t + 7) = 20 from (ut 7 (by omega) (by omega)).1), show mI (wI M (m + 6) x v) t 8 = nI (n + 1) from (wI_o (.inl (by omega))).trans hn, su1, show mL (wI M (m + 6) x v) (t + 7) = 24 from (ut 7 (by omega) (by omega)).2, ck_t q2, nI_clamp (by omega), lw_S, hcl, wI_e]
theorem E_13 {g vs ro : Nat → Nat} {K m t : Nat} {M0 : gMem} (W : P2W g vs ro K m t M0) {x : Nat} {M : gMem} (C : M2I m t M0 M) (hx : x ≤ K) (hr : ro x = 13) {n : Nat} (hn : mI M t 11 = nI (n + 1)) (h8 : n < 6) : f_X14_errorOf M m (nI x) = some (if tdS ro vs 1 (vs x) x 0 0 = none then (3 : Int32) else 0, wI (wI M (m + 6) x (tdV (tdS ro vs 1 (vs x) x 0 0))) (t + 8) n (tdV (tdS ro vs 1 (vs x) x 0 0))) := by
  obtain ⟨⟨⟨t0, -, r7, r12, -, -, t5, l5⟩, ⟨u0, ur, ut⟩, ht⟩, r8, t6, l6⟩ := M2_B W.1 C
  have hK := W.2.2.1; have q : inb (nI x) 401 := (inbN (by omega)).mpr (by omega); have hcl : (nI x).toNatClampNeg = x := nI_clamp (by omega); have hro : mI M (m + 5) (nI x).toNatClampNeg = nI (ro x) := (by rw [hcl]; exact P2_ro W C hx); rw [hr] at hro
  have q2 : inb (nI n) 6 := (inbN (by omega)).mpr (by omega)
  unfold f_X14_errorOf b_X14_errorOf_0
  rw [ck_t t0, dr_s r12, ck_t u0, dr_s r7, ck_t t5, l5, ck_t q, hro, if_neg (by decide), if_neg (by decide), if_neg (by decide), if_neg (by decide), if_neg (by decide), if_neg (by decide), if_neg (by decide), if_neg (by decide), if_neg (by decide), if_neg (by decide), if_neg (by decide), if_neg (by decide), if_pos (show nI 13 = (13 : Int32) from rfl), show f_X14_look M m (nI x) (1 : Int32) = _ from (M_look (w := 1) W C hx (g_40 W hx (by omega)) (by decide)).1, bd_S]
  generalize hv : tdV (tdS ro vs 1 (vs x) x 0 0) = v
  rw [ck_t (show mT (wI M (m + 6) x v) t = 12 from u0), ck_t (show mT (wI M (m + 6) x v) m = 13 from t0), show mR (wI M (m + 6) x v) m 8 = some (m + 6) from r8, dr_S, ck_t (show mT (wI M (m + 6) x v) (m + 6) = 20 from t6), show mL (wI M (m + 6) x v) (m + 6) = 401 from l6, ck_t q, dr_s (show mR (wI M (m + 6) x v) t 12 = some (t + 8) from ur 12 (by omega) (by decide)), ck_t (show mT (wI M (m + 6) x v) (t + 8) = 20 from (ut 8 (by omega) (by omega)).1), show mI (wI M (m + 6) x v) t 11 = nI (n + 1) from (wI_o (.inl (by omega))).trans hn, su1, show mL (wI M (m + 6) x v) (t + 8) = 6 from (ut 8 (by omega) (by omega)).2, ck_t q2, nI_clamp (by omega), lw_S, hcl, wI_e]
theorem E_14 {g vs ro : Nat → Nat} {K m t : Nat} {M0 : gMem} (W : P2W g vs ro K m t M0) {x : Nat} {M : gMem} (C : M2I m t M0 M) (hx : x ≤ K) (hr : ro x = 14) : f_X14_errorOf M m (nI x) = some (if tdS ro vs 2 (vs x) x 0 0 = none then (3 : Int32) else 0, wI M (m + 6) x (tdV (tdS ro vs 2 (vs x) x 0 0))) := by
  obtain ⟨⟨⟨t0, -, r7, r12, -, -, t5, l5⟩, ⟨u0, ur, ut⟩, ht⟩, r8, t6, l6⟩ := M2_B W.1 C
  have hK := W.2.2.1; have q : inb (nI x) 401 := (inbN (by omega)).mpr (by omega); have hcl : (nI x).toNatClampNeg = x := nI_clamp (by omega); have hro : mI M (m + 5) (nI x).toNatClampNeg = nI (ro x) := (by rw [hcl]; exact P2_ro W C hx); rw [hr] at hro
  unfold f_X14_errorOf b_X14_errorOf_0
  rw [ck_t t0, dr_s r12, ck_t u0, dr_s r7, ck_t t5, l5, ck_t q, hro, if_neg (by decide), if_neg (by decide), if_neg (by decide), if_neg (by decide), if_neg (by decide), if_neg (by decide), if_neg (by decide), if_neg (by decide), if_neg (by decide), if_neg (by decide), if_neg (by decide), if_neg (by decide), if_neg (by decide), if_pos (show nI 14 = (14 : Int32) from rfl), show f_X14_look M m (nI x) (2 : Int32) = _ from (M_look (w := 2) W C hx (g_40 W hx (by omega)) (by decide)).1, bd_S]
theorem E_15 {g vs ro : Nat → Nat} {K m t : Nat} {M0 : gMem} (W : P2W g vs ro K m t M0) {x : Nat} {M : gMem} (C : M2I m t M0 M) (hx : x ≤ K) (hr : ro x = 15) : f_X14_errorOf M m (nI x) = some (if tdS ro vs 1 (vs x) x 0 0 = none then (3 : Int32) else 0, wI M (m + 6) x (tdV (tdS ro vs 1 (vs x) x 0 0))) := by
  obtain ⟨⟨⟨t0, -, r7, r12, -, -, t5, l5⟩, ⟨u0, ur, ut⟩, ht⟩, r8, t6, l6⟩ := M2_B W.1 C
  have hK := W.2.2.1; have q : inb (nI x) 401 := (inbN (by omega)).mpr (by omega); have hcl : (nI x).toNatClampNeg = x := nI_clamp (by omega); have hro : mI M (m + 5) (nI x).toNatClampNeg = nI (ro x) := (by rw [hcl]; exact P2_ro W C hx); rw [hr] at hro
  unfold f_X14_errorOf b_X14_errorOf_0
  rw [ck_t t0, dr_s r12, ck_t u0, dr_s r7, ck_t t5, l5, ck_t q, hro, if_neg (by decide), if_neg (by decide), if_neg (by decide), if_neg (by decide), if_neg (by decide), if_neg (by decide), if_neg (by decide), if_neg (by decide), if_neg (by decide), if_neg (by decide), if_neg (by decide), if_neg (by decide), if_neg (by decide), if_neg (by decide), if_pos (show nI 15 = (15 : Int32) from rfl), show f_X14_look M m (nI x) (1 : Int32) = _ from (M_look (w := 1) W C hx (g_40 W hx (by omega)) (by decide)).1, bd_S]
/-- a member -/
theorem M_member {g vs ro : Nat → Nat} {K m t : Nat} {M0 : gMem} (W : P2W g vs ro K m t M0) {v : Int32} {M : gMem} (C : M2I m t M0 M) {p n : Nat} (hp : mI M t 11 = nI (p + 1)) (hp6 : p < 6) (hn : mI M (t + 9) p = nI n) (h8 : n ≤ 8) (h9 : n = 8 → ∃ i, i < n ∧ mI M (t + 10) (8 * p + i) = v) : ((∃ i, i < n ∧ mI M (t + 10) (8 * p + i) = v) ∧ f_X14_member M m v = some ((6 : Int32), M)) ∨ ((∀ i, i < n → mI M (t + 10) (8 * p + i) ≠ v) ∧ f_X14_member M m v = some ((0 : Int32), wI (wI M (t + 10) (8 * p + n) v) (t + 9) p (nI (n + 1)))) := by
  obtain ⟨⟨⟨t0, -, r7, r12, -⟩, ⟨u0, ur, ut⟩, ht⟩, r8, t6, l6⟩ := M2_B W.1 C
  have q1 : inb (nI p) 6 := (inbN (by omega)).mpr hp6
  have e0 : f_X14_member M m v = lp_X14_member_15 M v (some t) (nI p) (nI 0) := by
    unfold f_X14_member b_X14_member_0
    rw [ck_t t0, dr_s r12, ck_t u0, hp, su1, r12]
    rfl
  rw [e0]
  have hcp : (nI p).toNatClampNeg = p := nI_clamp (by omega)
  have hn' : mI M (t + 9) (nI p).toNatClampNeg = nI n := by rw [hcp]; exact hn
  have key : ∀ d i, i + d = n → (∀ j, j < i → mI M (t + 10) (8 * p + j) ≠ v) → ((∃ i, i < n ∧ mI M (t + 10) (8 * p + i) = v) ∧ lp_X14_member_15 M v (some t) (nI p) (nI i) = some ((6 : Int32), M)) ∨ ((∀ i, i < n → mI M (t + 10) (8 * p + i) ≠ v) ∧ lp_X14_member_15 M v (some t) (nI p) (nI i) = some ((0 : Int32), wI (wI M (t + 10) (8 * p + n) v) (t + 9) p (nI (n + 1)))) := by
    intro d
    induction d with
    | zero =>
      intro i hi hj
      have e : i = n := by omega
      subst e
      refine .inr ⟨hj, lp_out (b := ((0 : Int32), wI (wI M (t + 10) (8 * p + i) v) (t + 9) p (nI (i + 1)))) ?_⟩
      have n8 : i < 8 := by
        by_cases z : i = 8
        · obtain ⟨j, j1, j2⟩ := h9 z
          exact absurd j2 (hj j j1)
        · omega
      have q2 : inb (nI (8 * p + i)) 48 := (inbN (by omega)).mpr (by omega)
      have e1 : (8 : Int32) * nI p + nI i = nI (8 * p + i) := by rw [show (8 : Int32) = nI 8 from rfl, nI_mul, nI_add]
      show bb_X14_member_15 M v (some t) (nI p) (nI i) = _
      unfold bb_X14_member_15
      rw [dr_S, ck_t u0, dr_s (show mR M t 13 = some (t + 9) from ur 13 (by omega) (by decide)), ck_t (ut 9 (by omega) (by omega)).1, show mL M (t + 9) = 6 from (ut 9 (by omega) (by omega)).2, ck_t q1, hn', if_pos (nI_le (by omega) (by omega)), ck_t q1, dr_s (show mR M t 14 = some (t + 10) from ur 14 (by omega) (by decide)), ck_t (ut 10 (by omega) (by omega)).1, e1, show mL M (t + 10) = 48 from (ut 10 (by omega) (by omega)).2, ck_t q2, nI_clamp (show 8 * p + i < 2 ^ 31 by omega), lw_S, dr_s (show mR (wI M (t + 10) (8 * p + i) v) t 13 = some (t + 9) from ur 13 (by omega) (by decide)), ck_t (show mT (wI M (t + 10) (8 * p + i) v) (t + 9) = 20 from (ut 9 (by omega) (by omega)).1), show mL (wI M (t + 10) (8 * p + i) v) (t + 9) = 6 from (ut 9 (by omega) (by omega)).2, ck_t q1, ck_t q1, hcp, show mI (wI M (t + 10) (8 * p + i) v) (t + 9) p = nI i from (wI_o (.inl (by omega))).trans hn, nI_1, lw_S]
      rfl
    | succ d ih =>
      intro i hi hj
      have q2 : inb (nI (8 * p + i)) 48 := (inbN (by omega)).mpr (by omega)
      have e1 : (8 : Int32) * nI p + nI i = nI (8 * p + i) := by rw [show (8 : Int32) = nI 8 from rfl, nI_mul, nI_add]
      have q3 : ¬ nI n ≤ nI i := fun z => by have := (nI_leI (by omega) (by omega)).mp z; omega
      have hb : bb_X14_member_15 M v (some t) (nI p) (nI i) = if mI M (t + 10) (8 * p + i) = v then some (.inr ((6 : Int32), M)) else some (.inl (M, nI (i + 1))) := by
        unfold bb_X14_member_15
        rw [dr_S, ck_t u0, dr_s (show mR M t 13 = some (t + 9) from ur 13 (by omega) (by decide)), ck_t (ut 9 (by omega) (by omega)).1, show mL M (t + 9) = 6 from (ut 9 (by omega) (by omega)).2, ck_t q1, hn', if_neg q3, dr_s (show mR M t 14 = some (t + 10) from ur 14 (by omega) (by decide)), ck_t (ut 10 (by omega) (by omega)).1, show mL M (t + 10) = 48 from (ut 10 (by omega) (by omega)).2, ck_t (show inb ((8 : Int32) * nI p + nI i) 48 by rw [e1]; exact q2), show mI M (t + 10) ((8 : Int32) * nI p + nI i).toNatClampNeg = mI M (t + 10) (8 * p + i) by rw [e1, nI_clamp (by omega)], nI_1]
        rfl
      by_cases c : mI M (t + 10) (8 * p + i) = v
      · rw [if_pos c] at hb
        exact .inl ⟨⟨i, by omega, c⟩, lp_out hb⟩
      · rw [if_neg c] at hb
        have e2 : lp_X14_member_15 M v (some t) (nI p) (nI i) = lp_X14_member_15 M v (some t) (nI p) (nI (i + 1)) := lp_in hb
        rw [e2]
        exact ih (i + 1) (by omega) (fun j jj => by
          by_cases z : j = i
          · rw [z]; exact c
          · exact hj j (by omega))
  exact key n 0 (by omega) (fun j jj => absurd jj (Nat.not_lt_zero _))
