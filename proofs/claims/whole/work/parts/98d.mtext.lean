/-! ## Pure: the reference's lines of goes and pacts; its text -/
/-- how many events of a kind -/
def nc (c : Nat) : List (Nat × Nat) → Nat
  | [] => 0
  | x :: r => (if x.1 = c then 1 else 0) + nc c r
theorem ES_nc {g : Nat → Nat} : ∀ (es : List (Nat × Nat)) (k e : Nat), ES g k es e → nc 54 es + nc 53 es + k ≤ e
  | [], k, e, h => by show 0 + 0 + k ≤ e; have : k ≤ e := h; omega
  | x :: r, k, e, h => by
    rw [ES] at h
    rw [nc, nc]
    by_cases c : tkC x.1 = true
    · rw [if_pos c] at h
      have := ES_nc r _ e h.2.2
      have h1 := h.1
      by_cases c1 : x.1 = 54
      · rw [if_pos c1, if_neg (show ¬ x.1 = 53 by omega)]; omega
      · rw [if_neg c1]
        by_cases c2 : x.1 = 53
        · rw [if_pos c2]; omega
        · rw [if_neg c2]; omega
    · rw [if_neg c] at h
      have := ES_nc r _ e h
      rw [if_neg (show ¬ x.1 = 54 from fun z => c (by rw [z]; decide)), if_neg (show ¬ x.1 = 53 from fun z => c (by rw [z]; decide))]
      omega
theorem nc_0 {c : Nat} (hc : 45 ≤ c) : ∀ es : List (Nat × Nat), (∀ y ∈ es, y.1 < 45) → nc c es = 0
  | [], _ => rfl
  | x :: r, h => by
    have := h x List.mem_cons_self
    rw [nc, if_neg (by omega), nc_0 hc r (fun y hy => h y (List.mem_cons_of_mem _ hy))]
theorem ms_c {vs : Nat → Nat} {m t c i : Nat} {M : gMem} (ht : m + 7 ≤ t) : mI (mst1 vs m t c i M) t 15 = (if c = 54 then nI (cn M t 15 + 1) else mI M t 15) ∧ mI (mst1 vs m t c i M) t 16 = (if c = 53 then nI (cn M t 16 + 1) else mI M t 16) := by
  have pu : ∀ X v j, j ≠ 22 → mI (puM t v X) t j = mI X t j := fun X v j h => by
    unfold puM
    rw [wI_o (.inr h), wI_o (.inl (by omega))]
  have en : ∀ w j, j ≠ 22 → j ≠ 24 → mI (nmE m t c w i M) t j = mI M t j := fun w j h1 h2 => by
    unfold nmE roM
    rw [wI_o (.inl (by omega)), pu _ _ _ h1, wI_o (.inr h2), wI_o (.inl (by omega)), pu _ _ _ h1]
  have ro : ∀ v j, mI (roM m i v M) t j = mI M t j := fun v j => wI_o (.inl (by omega))
  unfold mst1
  by_cases h : c = 16 ∨ c = 17 ∨ c = 4 ∨ c = 19
  · rw [if_pos h, en _ _ (by decide) (by decide), en _ _ (by decide) (by decide), if_neg (by omega), if_neg (by omega)]; exact ⟨rfl, rfl⟩
  rw [if_neg h]; clear h
  by_cases h : c = 2 ∨ c = 18
  · rw [if_pos h, en _ _ (by decide) (by decide), en _ _ (by decide) (by decide), if_neg (by omega), if_neg (by omega)]; exact ⟨rfl, rfl⟩
  rw [if_neg h]; clear h
  by_cases h : c = 41
  · rw [if_pos h, pu _ _ _ (by decide), pu _ _ _ (by decide), pu _ _ _ (by decide), pu _ _ _ (by decide), if_neg (by omega), if_neg (by omega)]; exact ⟨rfl, rfl⟩
  rw [if_neg h]; clear h
  by_cases h : c < 45
  · rw [if_pos h, pu _ _ _ (by decide), pu _ _ _ (by decide), if_neg (by omega), if_neg (by omega)]; exact ⟨rfl, rfl⟩
  rw [if_neg h]; clear h
  by_cases h : c = 53
  · rw [if_pos h, if_neg (show ¬ c = 54 by omega), if_pos h, wI_o (.inr (by decide)), wI_o (.inl (by omega)), ro, wI_e]; exact ⟨rfl, rfl⟩
  rw [if_neg h]
  by_cases h4 : c = 54
  · rw [if_pos h4, if_pos h4, if_neg h, wI_o (.inl (by omega)), wI_e, wI_o (.inl (by omega)), wI_o (.inr (by decide)), ro]; exact ⟨rfl, rfl⟩
  rw [if_neg h4, if_neg h4, if_neg h]; clear h h4
  by_cases h : c = 64 ∨ c = 66
  · rw [if_pos h, wI_o (.inl (by omega)), wI_o (.inl (by omega))]; exact ⟨rfl, rfl⟩
  rw [if_neg h]; clear h
  by_cases h : c = 65
  · rw [if_pos h, wI_o (.inl (by omega)), wI_o (.inl (by omega))]; exact ⟨rfl, rfl⟩
  rw [if_neg h]; clear h
  by_cases h : 1000 ≤ c
  · rw [if_pos h, ro, ro]; exact ⟨rfl, rfl⟩
  rw [if_neg h]; clear h
  by_cases h : 50 ≤ c
  · rw [if_pos h, ro, ro]; exact ⟨rfl, rfl⟩
  rw [if_neg h]; exact ⟨rfl, rfl⟩
theorem mr_c {vs : Nat → Nat} {m t : Nat} (ht : m + 7 ≤ t) : ∀ (es : List (Nat × Nat)) (M : gMem) (a b : Nat), mI M t 15 = nI a → mI M t 16 = nI b → a + nc 54 es < 2 ^ 30 → b + nc 53 es < 2 ^ 30 → mI (mrn vs m t es M) t 15 = nI (a + nc 54 es) ∧ mI (mrn vs m t es M) t 16 = nI (b + nc 53 es)
  | [], M, a, b, h1, h2, _, _ => ⟨h1, h2⟩
  | x :: r, M, a, b, h1, h2, h3, h4 => by
    rw [nc] at h3 h4
    rw [nc, nc, mrn]
    obtain ⟨c1, c2⟩ := ms_c (vs := vs) (c := x.1) (i := x.2) (M := M) ht
    rw [cn_e h1 (by omega), h1] at c1
    rw [cn_e h2 (by omega), h2] at c2
    have d1 : mI (mst1 vs m t x.1 x.2 M) t 15 = nI (a + if x.1 = 54 then 1 else 0) := by
      rw [c1]
      by_cases z : x.1 = 54
      · rw [if_pos z, if_pos z]
      · rw [if_neg z, if_neg z]; rfl
    have d2 : mI (mst1 vs m t x.1 x.2 M) t 16 = nI (b + if x.1 = 53 then 1 else 0) := by
      rw [c2]
      by_cases z : x.1 = 53
      · rw [if_pos z, if_pos z]
      · rw [if_neg z, if_neg z]; rfl
    have := mr_c (vs := vs) ht r _ _ _ d1 d2 (by omega) (by omega)
    rw [Nat.add_assoc, Nat.add_assoc] at this
    exact this
theorem imin_n {a b : Nat} (ha : a < 2 ^ 30) (hb : b < 2 ^ 30) : imin (nI a) (nI b) = nI (min a b) := by
  unfold imin
  by_cases c : b < a
  · rw [if_pos (nI_lt c (by omega)), Nat.min_eq_right (by omega)]
  · rw [if_neg (fun z => c ((nI_ltI (by omega) (by omega)).mp z)), Nat.min_eq_left (by omega)]
/-- a memory that differs in told's counters and rows, not in code and opens -/
theorem Q_w {m t e d a j : Nat} {v : Int32} {M0 M : gMem} (ht : m + 7 ≤ t) (Q : mQk m t d M0 M e) (h : (a = t ∧ j ≠ 22 ∧ j ≠ 24) ∨ (t < a ∧ a < t + 17)) : mQk m t d M0 (wI M a j v) e := by
  obtain ⟨C, h9, h10, ⟨L, l1, l2⟩, ⟨n, n1, n2⟩⟩ := Q
  refine ⟨MI_w C (.inr (.inr (by omega))) ht, ?_, ?_, ⟨L, l1, ?_⟩, ⟨n, n1, ?_⟩⟩
  · rw [wI_o (.inl (by omega))]; exact h9
  · rw [wI_o (.inl (by omega))]; exact h10
  · rw [wI_o (by omega)]; exact l2
  · rw [wI_o (by omega)]; exact n2
/-- a part of the recursion within a line -/
theorem ML_px {g vs : Nat → Nat} {K m t : Nat} {M0 : gMem} (W : MWd g K m t M0) (hN : ∀ X k, MI m t M0 X → k ≤ K → g k = 41 → f_X14_numberAt X m (nI k) = some (nI (vs k), X)) {j k : Nat} {M : gMem} {f : Nat → Option (Option (List (Nat × Nat)) × Nat)} {B : gMem → Option (Int32 × gMem)} {a b : Nat} (hj : j < 7) (hj3 : j ≠ 3) (Q : mQk m t 0 M0 M k) (hk : k ≤ K) (ha : mI M t 15 = nI a) (ha2 : a < 2 ^ 29) (hb : mI M t 16 = nI b) (hb2 : b < 2 ^ 29) (hB : ∀ X e, e ≤ K → mQk m t 0 M0 X e → mI X t 15 = nI a → mI X t 16 = nI b → MLl vs K m t M0 X (f e) (B X)) : MLl vs K m t M0 M (sq (Px g 64 j k 0) f) (bd (fX14R 64 (if j < 3 then j else j - 1) M m) fun r1 M1 => if r1 = 0 then some ((0 : Int32), M1) else B M1) := by
  have ht := W.1.2.2
  have hK := W.2.2.2.1
  have key := M_Px W hN 64 64 (by decide) 64 (by decide) j k 0 M hj hj3 Q hk (by decide)
  have fe := (FP_Px W.2.2.2.2 64 j k 0 hk).1 hj3
  have wp := WP_P (g := g) (n := 64) (j := j) (k := k) (d := 0)
  have ac := AC_Px W.2.2.1 64 j k 0
  match hx : Px g 64 j k 0, key, fe, wp, ac with
  | none, _, _, _, _ => trivial
  | some (none, e), ⟨M1, k1, k2, k3⟩, fe, _, _ => exact ⟨M1, by rw [k1, bd_S, if_pos rfl], k2, k3, fe⟩
  | some (some es, e), ⟨M1, k1, k2, k3, k4, k5⟩, fe, wp, ac =>
    have he : e ≤ K := fe.1
    have wp := wp es e rfl
    obtain ⟨Q1, -⟩ := MQ_nx (vs := vs) (j := 0) ht Q (by omega) (by omega) (by omega) (ac es e rfl) k2 k3 k4 k5
    have z1 := nc_0 (c := 54) (by decide) es (ac es e rfl)
    have z2 := nc_0 (c := 53) (by decide) es (ac es e rfl)
    obtain ⟨c1, c2⟩ := mr_c (vs := vs) ht es M a b ha hb (by omega) (by omega)
    rw [← si2_I k5 (by omega), z1] at c1
    rw [← si2_I k5 (by omega), z2] at c2
    rw [k1, bd_S, if_neg (show ¬ (1 : Int32) = 0 by decide)]
    exact ML_app ht rfl k5 (hB M1 e he Q1 c1 c2)
theorem ML_si {vs : Nat → Nat} {K m t : Nat} {M0 M M1 : gMem} {x : Option (Option (List (Nat × Nat)) × Nat)} {y : Option (Int32 × gMem)} (ht : m + 7 ≤ t) (hs : si2 m M1 M) (h : MLl vs K m t M0 M1 x y) : MLl vs K m t M0 M x y := by
  match x, h with
  | none, _ => trivial
  | some (none, e), h => exact h
  | some (some es, e), ⟨M2, h1, h2, h3, h4⟩ => exact ⟨M2, h1, h2, h3, si2_tr h4 (si2_rn ht es hs)⟩
theorem e111 {g vs : Nat → Nat} {K m t : Nat} {M0 : gMem} (W : MWd g K m t M0) {c i a k : Nat} {M : gMem} (Q : mQk m t 0 M0 M k) (hk : k ≤ K) (ha : mI M t 15 = nI (a + 1)) (ha2 : a < 2 ^ 29) (hc : c = 64 ∨ c = 66) : MLl vs K m t M0 M (em (c, i) k) (b_X14_isGoLine_111 M m (nI (min a 24))) := by
  obtain ⟨⟨t0, -, -, r12, -⟩, ⟨u0, ur, ut⟩, ht⟩ := MI_B W.1 Q.1
  have q : inb (nI (min a 24)) 25 := (inbN (by omega)).mpr (by omega)
  refine ⟨mst1 vs m t c i M, ?_, ?_, hk, fun _ _ => rfl⟩
  · unfold b_X14_isGoLine_111
    rw [ck_t t0, dr_s r12, ck_t u0, dr_s (show mR M t 18 = some (t + 12) from ur 18 (by omega) (by decide)), ck_t (ut 12 (by omega) (by omega)).1, show mL M (t + 12) = 25 from (ut 12 (by omega) (by omega)).2, ck_t q, nI_clamp (by omega), lw_S]
    unfold mst1
    rw [if_neg (by omega), if_neg (by omega), if_neg (by omega), if_neg (by omega), if_neg (by omega), if_neg (by omega), if_pos hc, cn_e ha (by omega), Nat.add_sub_cancel]
  · unfold mst1
    rw [if_neg (by omega), if_neg (by omega), if_neg (by omega), if_neg (by omega), if_neg (by omega), if_neg (by omega), if_pos hc]
    exact Q_w ht Q (.inr (by omega))
theorem M_lnO {g vs : Nat → Nat} {K m t : Nat} {M0 : gMem} (W : MWd g K m t M0) (hN : ∀ X k, MI m t M0 X → k ≤ K → g k = 41 → f_X14_numberAt X m (nI k) = some (nI (vs k), X)) {k a b : Nat} {M : gMem} (Q : mQk m t 0 M0 M k) (hk : k ≤ K) (hg : g k = 7) (ha : mI M t 15 = nI a) (ha2 : a ≤ 400) (hb : mI M t 16 = nI b) (hb2 : b ≤ 400) : MLl vs K m t M0 M (lnO g k) (f_X14_isGoLine M m) := by
  have t13 : ∀ X, MI m t M0 X → mT X m = 13 := fun X CX => (MI_B W.1 CX).1.1
  have hK := W.2.2.2.1
  have hk1 := W.2.2.2.2 k hk (by omega)
  obtain ⟨⟨t0, -, r7, r12, -, -, t5, l5⟩, ⟨u0, ur, ut⟩, ht⟩ := MI_B W.1 Q.1
  have q : inb (nI k) 401 := (inbN (by omega)).mpr (by omega)
  have q2 : inb (nI (min a 24)) 25 := (inbN (by omega)).mpr (by omega)
  have Q1 := mQk_tk ht (ro_Q (i := k) (v := nI 4) ht Q)
  have e9 : mI (roM m k (nI 4) M) m 9 = nI k := by unfold roM; rw [wI_o (.inl (by omega))]; exact Q.2.1
  have e15 : mI (wI (roM m k (nI 4) M) m 9 (nI (k + 1))) t 15 = nI a := by unfold roM; rw [wI_o (.inl (by omega)), wI_o (.inl (by omega))]; exact ha
  have e16 : mI (wI (roM m k (nI 4) M) m 9 (nI (k + 1))) t 16 = nI b := by unfold roM; rw [wI_o (.inl (by omega)), wI_o (.inl (by omega))]; exact hb
  have Q2 : mQk m t 0 M0 (wI (wI (wI (roM m k (nI 4) M) m 9 (nI (k + 1))) t 15 (nI (a + 1))) (t + 11) (min a 24) (mI (wI (wI (roM m k (nI 4) M) m 9 (nI (k + 1))) t 15 (nI (a + 1))) t 22)) (k + 1) := Q_w ht (Q_w ht Q1 (.inl (by omega))) (.inr (by omega))
  have s2 : si2 m (wI (wI (wI (roM m k (nI 4) M) m 9 (nI (k + 1))) t 15 (nI (a + 1))) (t + 11) (min a 24) (mI (wI (wI (roM m k (nI 4) M) m 9 (nI (k + 1))) t 15 (nI (a + 1))) t 22)) (mst1 vs m t 54 k M) := by
    have e22 : mI (wI (wI (roM m k (nI 4) M) m 9 (nI (k + 1))) t 15 (nI (a + 1))) t 22 = mI M t 22 := by
      unfold roM
      rw [wI_o (.inr (by decide)), wI_o (.inl (by omega)), wI_o (.inl (by omega))]
    rw [e22]
    unfold mst1
    rw [if_neg (by decide), if_neg (by decide), if_neg (by decide), if_neg (by decide), if_neg (by decide), if_pos rfl, cn_e ha (by omega)]
    intro x y
    have tw : ∀ X i j w, t ≤ i → wI (td' m x y X) i j w = td' m x y (wI X i j w) := fun X i j w h => td_w (t := t) (by omega)
    rw [← tw _ (t + 11) _ _ (by omega), ← tw _ t _ _ (Nat.le_refl _), ← tw _ (t + 11) _ _ (by omega), ← tw _ t _ _ (Nat.le_refl _), show td' m x y (wI (roM m k (nI 4) M) m 9 (nI (k + 1))) = td' m x y (roM m k (nI 4) M) from si2_tk x y]
  have a15 : mI (wI (wI (wI (roM m k (nI 4) M) m 9 (nI (k + 1))) t 15 (nI (a + 1))) (t + 11) (min a 24) (mI (wI (wI (roM m k (nI 4) M) m 9 (nI (k + 1))) t 15 (nI (a + 1))) t 22)) t 15 = nI (a + 1) := by
    rw [wI_o (.inl (by omega)), wI_e]
  have a16 : mI (wI (wI (wI (roM m k (nI 4) M) m 9 (nI (k + 1))) t 15 (nI (a + 1))) (t + 11) (min a 24) (mI (wI (wI (roM m k (nI 4) M) m 9 (nI (k + 1))) t 15 (nI (a + 1))) t 22)) t 16 = nI b := by
    rw [wI_o (.inl (by omega)), wI_o (.inr (by decide))]; exact e16
  unfold f_X14_isGoLine b_X14_isGoLine_0 b_X14_isGoLine_109 lnO
  rw [ck_t t0, dr_s r7, ck_t t5, Q.2.1, l5, ck_t q, nI_clamp (by omega), lw_S]
  show MLl vs K m t M0 M _ (lw (wI (roM m k (nI 4) M) m 9 (mI (roM m k (nI 4) M) m 9 + 1)) fun M18 => _)
  rw [e9, nI_1, lw_S]
  show MLl vs K m t M0 M _ (dr (mR (wI (roM m k (nI 4) M) m 9 (nI (k + 1))) m 12) fun a21 => ck (mT (wI (roM m k (nI 4) M) m 9 (nI (k + 1))) a21 = 12) <| lw (wI (wI (roM m k (nI 4) M) m 9 (nI (k + 1))) a21 15 (mI (wI (roM m k (nI 4) M) m 9 (nI (k + 1))) a21 15 + 1)) fun M23 => _)
  rw [dr_s (show mR (wI (roM m k (nI 4) M) m 9 (nI (k + 1))) m 12 = some t from r12), ck_t (show mT (wI (roM m k (nI 4) M) m 9 (nI (k + 1))) t = 12 from u0), e15, nI_1, lw_S, dr_s (show mR (wI (wI (roM m k (nI 4) M) m 9 (nI (k + 1))) t 15 (nI (a + 1))) m 12 = some t from r12), ck_t (show mT (wI (wI (roM m k (nI 4) M) m 9 (nI (k + 1))) t 15 (nI (a + 1))) t = 12 from u0), dr_s (show mR (wI (wI (roM m k (nI 4) M) m 9 (nI (k + 1))) t 15 (nI (a + 1))) t 17 = some (t + 11) from ur 17 (by omega) (by decide)), ck_t (show mT (wI (wI (roM m k (nI 4) M) m 9 (nI (k + 1))) t 15 (nI (a + 1))) (t + 11) = 20 from (ut 11 (by omega) (by omega)).1), show (24 : Int32) = nI 24 from rfl, imin_n (by omega) (by omega), show mL (wI (wI (roM m k (nI 4) M) m 9 (nI (k + 1))) t 15 (nI (a + 1))) (t + 11) = 25 from (ut 11 (by omega) (by omega)).2, ck_t q2, nI_clamp (by omega), lw_S]
  rw [if_pos hg]
  generalize wI (wI (wI (roM m k (nI 4) M) m 9 (nI (k + 1))) t 15 (nI (a + 1))) (t + 11) (min a 24) (mI (wI (wI (roM m k (nI 4) M) m 9 (nI (k + 1))) t 15 (nI (a + 1))) t 22) = Y at Q2 s2 a15 a16
  refine ML_app ht (show em (54, k) (k + 1) = some (some [(54, k)], k + 1) from rfl) s2 ?_
  refine ML_as (c := 60) (v := 10) W Q2 hk1 (.inl rfl) (by decide) rfl rfl (fun X h1 QX o => ?_)
  rw [← o] at a15 a16
  rw [ck_t (t13 _ QX.1)]
  refine ML_tk W QX h1 (by decide) (y_tk (a := 8) W QX h1 (by decide)) (fun X h1 QX o => ?_)
  rw [← o] at a15 a16
  rw [ck_t (t13 _ QX.1)]
  refine ML_as (c := 61) (v := 11) W QX h1 (.inl rfl) (by decide) rfl rfl (fun X h1 QX o => ?_)
  rw [← o] at a15 a16
  rw [ck_t (t13 _ QX.1), show (9 : Int32) = nI 9 from rfl, y_tk (a := 9) W QX h1 (by decide)]
  by_cases c9 : g (k + 1 + 1 + 1 + 1) = 9
  · have Q3 := mQk_tk ht QX
    have h2 := W.2.2.2.2 _ h1 (by omega)
    rw [if_pos c9, if_pos c9, bd_S, if_neg (show ¬ (1 : Int32) = 0 by decide), ck_t (t13 _ Q3.1)]
    have key := ML_px (j := 0) (f := em (64, k + 1 + 1 + 1 + 1)) (B := fun X => b_X14_isGoLine_111 X m (nI (min a 24))) W hN (by decide) (by decide) Q3 h2 (a := a + 1) (b := b) ((wI_o (.inl (by omega))).trans a15) (by omega) ((wI_o (.inl (by omega))).trans a16) (by omega) (fun X e he QX x15 x16 => e111 W QX he x15 (by omega) (.inl rfl))
    exact ML_si ht (si2_tk (k := k + 1 + 1 + 1 + 1 + 1)) key
  · rw [if_neg c9, if_neg c9, bd_S, if_pos rfl]
    exact e111 W QX h1 a15 (by omega) (.inr rfl)
/-! pacts -/
theorem ck_oI {α β : Type} {p : Prop} [Decidable p] {x : Option β} : (ck p (oI x) : Option (α ⊕ β)) = oI (ck p x) := by
  by_cases c : p
  · rw [ck_t c, ck_t c]
  · unfold ck; rw [if_neg c, if_neg c]; rfl
theorem bd_oI {α β : Type} {z : Option (Int32 × gMem)} {A B : Int32 → gMem → Option β} : (bd z fun r M => if r = 0 then (oI (A r M) : Option (α ⊕ β)) else oI (B r M)) = oI (bd z fun r M => if r = 0 then A r M else B r M) := by
  match z with
  | none => rfl
  | some (r, M) =>
    rw [bd_S, bd_S]
    by_cases c : r = 0
    · rw [if_pos c, if_pos c]
    · rw [if_neg c, if_neg c]
theorem dr_oI {α β : Type} {z : Option Nat} {A : Nat → Option β} : (dr z fun a => (oI (A a) : Option (α ⊕ β))) = oI (dr z A) := by
  match z with
  | none => rfl
  | some a => rfl
theorem lw_oI {α β : Type} {M : gMem} {A : gMem → Option β} : (lw M fun a => (oI (A a) : Option (α ⊕ β))) = oI (lw M A) := rfl
theorem M_mbL {g vs : Nat → Nat} {K m t : Nat} {M0 : gMem} (W : MWd g K m t M0) {b x : Nat} {f : Nat → Option (Option (List (Nat × Nat)) × Nat)} (hB : ∀ M k, mQk m t 0 M0 M k → k ≤ K → mI M t 16 = nI (b + 1) → (∃ a, a ≤ 400 ∧ mI M t 15 = nI a) → g k ≠ 30 → ∃ y, bb_X14_isPactLine_84 M m (nI x) = oI y ∧ MLl vs K m t M0 M (f k) y) : ∀ q k M, mQk m t 0 M0 M k → k ≤ K → mI M t 16 = nI (b + 1) → (∃ a, a ≤ 400 ∧ mI M t 15 = nI a) → MLl vs K m t M0 M (sq (mbL g q k) f) (lp_X14_isPactLine_84 M m (nI x))
  | 0, _, _, _, _, _, _ => trivial
  | q + 1, k, M, Q, hk, h16, h15 => by
    have ht := W.1.2.2
    have t13 : ∀ X, MI m t M0 X → mT X m = 13 := fun X CX => (MI_B W.1 CX).1.1
    have i30 := (mk_s (g k) (W.2.2.1 k)).2.2.2.2.2.1
    rw [mbL]
    by_cases c : g k = 30
    · have hk1 := W.2.2.2.2 k hk (by omega)
      have Q1 := mQk_tk ht Q
      have i40 := (mk_i (g (k + 1)) (W.2.2.1 (k + 1))).2.1 40 (by decide) (by decide)
      rw [if_pos c, sq_as]
      have e0 : bb_X14_isPactLine_84 M m (nI x) = bd (f_X14_eatAs (tk' m (k + 1) M) m (nI 40) (nI 12)) fun r4 M4 => (if r4 = 0 then oI (some ((0 : Int32), M4)) else some (.inl M4)) := by
        unfold bb_X14_isPactLine_84
        rw [ck_t (t13 _ Q.1), show (44 : Int32) = nI 44 from rfl, M_eatSign W Q.1 Q.2.1 hk (by decide), if_pos (i30.mpr c), bd_S, if_neg (show ¬ (1 : Int32) = 0 by decide), ck_t (t13 _ Q1.1)]
        rfl
      rw [M_eatAs W Q1.1 Q1.2.1 hk1 (by decide), if_cg i40] at e0
      have Q2 := ro_Q (i := k + 1) (v := nI 12) ht Q1
      unfold nm
      by_cases d : g (k + 1) = 40
      · rw [if_pos d, bd_S, if_neg (show ¬ (1 : Int32) = 0 by decide)] at e0
        rw [if_pos d]
        have hk2 := W.2.2.2.2 (k + 1) hk1 (by omega)
        have o : ∀ j, mI (tk' m (k + 1 + 1) (roM m (k + 1) (nI 12) (tk' m (k + 1) M))) t j = mI M t j := fun j => by
          unfold tk' roM
          rw [wI_o (.inl (by omega)), wI_o (.inl (by omega)), wI_o (.inl (by omega))]
        have key := M_mbL W hB q (k + 1 + 1) _ (mQk_tk ht Q2) hk2 (by rw [o]; exact h16) (by rw [o]; exact h15)
        have e1 : lp_X14_isPactLine_84 M m (nI x) = lp_X14_isPactLine_84 (tk' m (k + 1 + 1) (roM m (k + 1) (nI 12) (tk' m (k + 1) M))) m (nI x) := lp_in e0
        rw [e1]
        refine ML_app ht rfl ?_ key
        show si2 m _ (mst1 vs m t 62 (k + 1) M)
        rw [ms_ro (.inl (by decide)), if_neg (by decide)]
        refine si2_tr si2_tk (fun a b => ?_)
        rw [← td_r, ← td_r, si2_tk a b]
      · rw [if_neg d, bd_S, if_pos rfl] at e0
        rw [if_neg d]
        exact ML_ft (lp_oI1 e0) Q2.1 Q2.2.1 hk1
    · rw [if_neg c, sq_n1]
      obtain ⟨y, y1, y2⟩ := hB M k Q hk h16 h15 c
      have e1 : lp_X14_isPactLine_84 M m (nI x) = y := lp_oI1 y1
      rw [e1]; exact y2
theorem M_84 {g vs : Nat → Nat} {K m t : Nat} {M0 : gMem} (W : MWd g K m t M0) (hN : ∀ X k, MI m t M0 X → k ≤ K → g k = 41 → f_X14_numberAt X m (nI k) = some (nI (vs k), X)) {b k : Nat} {M : gMem} (Q : mQk m t 0 M0 M k) (hk : k ≤ K) (h16 : mI M t 16 = nI (b + 1)) (hb : b ≤ 400) (h15 : ∃ a, a ≤ 400 ∧ mI M t 15 = nI a) (c : g k ≠ 30) : ∃ y, bb_X14_isPactLine_84 M m (nI (min b 6)) = oI y ∧ MLl vs K m t M0 M (if g k = 12 then some (some [], k + 1) else sq (tk1 g 13 k) fun k => sq (nm g 63 k) fun k => sq (tk1 g 14 k) fun k => sq (Px g 64 4 k 0) (em (65, k))) y := by
  have ht := W.1.2.2
  have t13 : ∀ X, MI m t M0 X → mT X m = 13 := fun X CX => (MI_B W.1 CX).1.1
  have i30 := (mk_s (g k) (W.2.2.1 k)).2.2.2.2.2.1
  obtain ⟨a, a1, h15⟩ := h15
  unfold bb_X14_isPactLine_84 b_X14_isPactLine_153
  simp only [bd_oI, ck_oI, dr_oI, lw_oI]
  rw [ck_t (t13 _ Q.1), show (44 : Int32) = nI 44 from rfl, M_eatSign W Q.1 Q.2.1 hk (by decide), if_neg (fun z => c (i30.mp z)), bd_S, if_pos rfl, ck_t (t13 _ Q.1), show (12 : Int32) = nI 12 from rfl, y_tk (a := 12) W Q hk (by decide)]
  by_cases c2 : g k = 12
  · rw [if_pos c2, if_pos c2, bd_S, if_neg (show ¬ (1 : Int32) = 0 by decide)]
    exact ⟨_, rfl, tk' m (k + 1) M, rfl, mQk_tk ht Q, W.2.2.2.2 k hk (by omega), si2_tk⟩
  rw [if_neg c2, if_neg c2, bd_S, if_pos rfl, ck_t (t13 _ Q.1)]
  refine ⟨_, rfl, ?_⟩
  refine ML_tk W Q hk (by decide) (y_tk (a := 13) W Q hk (by decide)) (fun X h1 QX o => ?_)
  rw [← o] at h15 h16
  rw [ck_t (t13 _ QX.1)]
  refine ML_as (c := 63) (v := 13) W QX h1 (.inl rfl) (by decide) rfl rfl (fun X h1 QX o => ?_)
  rw [← o] at h15 h16
  rw [ck_t (t13 _ QX.1)]
  refine ML_tk W QX h1 (by decide) (y_tk (a := 14) W QX h1 (by decide)) (fun X h1 QX o => ?_)
  rw [← o] at h15 h16
  rw [ck_t (t13 _ QX.1)]
  refine ML_px (j := 4) W hN (by decide) (by decide) QX h1 h15 (by omega) h16 (by omega) (fun Y e he QY y15 y16 => ?_)
  obtain ⟨⟨t0, -, -, r12, -⟩, ⟨u0, ur, ut⟩, -⟩ := MI_B W.1 QY.1
  have q : inb (nI (min b 6)) 7 := (inbN (by omega)).mpr (by omega)
  have ev : mst1 vs m t 65 (k + 1 + 1 + 1) Y = wI Y (t + 14) (min b 6) (mI Y t 22) := by
    unfold mst1
    rw [if_neg (by decide), if_neg (by decide), if_neg (by decide), if_neg (by decide), if_neg (by decide), if_neg (by decide), if_neg (by decide), if_pos rfl, cn_e y16 (by omega), Nat.add_sub_cancel]
  rw [ck_t t0, dr_s r12, ck_t u0, dr_s (show mR Y t 20 = some (t + 14) from ur 20 (by omega) (by decide)), ck_t (ut 14 (by omega) (by omega)).1, show mL Y (t + 14) = 7 from (ut 14 (by omega) (by omega)).2, ck_t q, nI_clamp (by omega), lw_S]
  refine ⟨_, rfl, Q_w ht QY (.inr (by omega)), he, ?_⟩
  show si2 m _ (mst1 vs m t 65 (k + 1 + 1 + 1) Y)
  rw [ev]
  exact fun _ _ => rfl
theorem M_lnP {g vs : Nat → Nat} {K m t : Nat} {M0 : gMem} (W : MWd g K m t M0) (hN : ∀ X k, MI m t M0 X → k ≤ K → g k = 41 → f_X14_numberAt X m (nI k) = some (nI (vs k), X)) {k a b : Nat} {M : gMem} (Q : mQk m t 0 M0 M k) (hk : k ≤ K) (hg : g k = 10) (ha : mI M t 15 = nI a) (ha2 : a ≤ 400) (hb : mI M t 16 = nI b) (hb2 : b ≤ 400) : MLl vs K m t M0 M (lnP g k) (f_X14_isPactLine M m) := by
  have t13 : ∀ X, MI m t M0 X → mT X m = 13 := fun X CX => (MI_B W.1 CX).1.1
  have hK := W.2.2.2.1
  have hk1 := W.2.2.2.2 k hk (by omega)
  obtain ⟨⟨t0, -, -, r12, -, -, -, -⟩, ⟨u0, ur, ut⟩, ht⟩ := MI_B W.1 Q.1
  have q2 : inb (nI (min b 6)) 7 := (inbN (by omega)).mpr (by omega)
  have Q1 := mQk_tk ht Q
  have e15 : mI (wI M m 9 (nI (k + 1))) t 15 = nI a := by rw [wI_o (.inl (by omega))]; exact ha
  have e16 : mI (wI M m 9 (nI (k + 1))) t 16 = nI b := by rw [wI_o (.inl (by omega))]; exact hb
  have e22 : mI (wI (wI M m 9 (nI (k + 1))) t 16 (nI (b + 1))) t 22 = mI M t 22 := by rw [wI_o (.inr (by decide)), wI_o (.inl (by omega))]
  have Q2 : mQk m t 0 M0 (wI (wI (wI M m 9 (nI (k + 1))) t 16 (nI (b + 1))) (t + 13) (min b 6) (mI M t 22)) (k + 1) := Q_w ht (Q_w ht Q1 (.inl (by omega))) (.inr (by omega))
  have a15 : mI (wI (wI (wI M m 9 (nI (k + 1))) t 16 (nI (b + 1))) (t + 13) (min b 6) (mI M t 22)) t 15 = nI a := by
    rw [wI_o (.inl (by omega)), wI_o (.inr (by decide))]; exact e15
  have a16 : mI (wI (wI (wI M m 9 (nI (k + 1))) t 16 (nI (b + 1))) (t + 13) (min b 6) (mI M t 22)) t 16 = nI (b + 1) := by
    rw [wI_o (.inl (by omega)), wI_e]
  unfold f_X14_isPactLine b_X14_isPactLine_0 b_X14_isPactLine_82 lnP
  rw [ck_t t0, Q.2.1, nI_1, lw_S]
  show MLl vs K m t M0 M _ (dr (mR (wI M m 9 (nI (k + 1))) m 12) fun a21 => ck (mT (wI M m 9 (nI (k + 1))) a21 = 12) <| lw (wI (wI M m 9 (nI (k + 1))) a21 16 (mI (wI M m 9 (nI (k + 1))) a21 16 + 1)) fun M23 => _)
  rw [dr_s (show mR (wI M m 9 (nI (k + 1))) m 12 = some t from r12), ck_t (show mT (wI M m 9 (nI (k + 1))) t = 12 from u0), e16, nI_1, lw_S, dr_s (show mR (wI (wI M m 9 (nI (k + 1))) t 16 (nI (b + 1))) m 12 = some t from r12), ck_t (show mT (wI (wI M m 9 (nI (k + 1))) t 16 (nI (b + 1))) t = 12 from u0), dr_s (show mR (wI (wI M m 9 (nI (k + 1))) t 16 (nI (b + 1))) t 19 = some (t + 13) from ur 19 (by omega) (by decide)), ck_t (show mT (wI (wI M m 9 (nI (k + 1))) t 16 (nI (b + 1))) (t + 13) = 20 from (ut 13 (by omega) (by omega)).1), show (6 : Int32) = nI 6 from rfl, imin_n (by omega) (by omega), show mL (wI (wI M m 9 (nI (k + 1))) t 16 (nI (b + 1))) (t + 13) = 7 from (ut 13 (by omega) (by omega)).2, ck_t q2, nI_clamp (by omega), lw_S, e22]
  rw [show tk1 g 10 k = some (some [], k + 1) from if_pos hg, sq_n1]
  unfold nm
  have i40 := (mk_i (g (k + 1)) (W.2.2.1 (k + 1))).2.1 40 (by decide) (by decide)
  have Q3 := ro_Q (i := k + 1) (v := nI 3) ht Q2
  rw [show (40 : Int32) = nI 40 from rfl, show (3 : Int32) = nI 3 from rfl, M_eatAs W Q2.1 Q2.2.1 hk1 (by decide), if_cg i40]
  by_cases d : g (k + 1) = 40
  · rw [if_pos d, if_pos d, bd_S, if_neg (show ¬ (1 : Int32) = 0 by decide)]
    have hk2 := W.2.2.2.2 (k + 1) hk1 (by omega)
    have Q4 := mQk_tk ht Q3
    have o : ∀ X j, mI (tk' m (k + 1 + 1) (roM m (k + 1) (nI 3) X)) t j = mI X t j := fun X j => by
      unfold tk' roM
      rw [wI_o (.inl (by omega)), wI_o (.inl (by omega))]
    have b15 := (o (wI (wI (wI M m 9 (nI (k + 1))) t 16 (nI (b + 1))) (t + 13) (min b 6) (mI M t 22)) 15).trans a15
    have b16 := (o (wI (wI (wI M m 9 (nI (k + 1))) t 16 (nI (b + 1))) (t + 13) (min b 6) (mI M t 22)) 16).trans a16
    have s2 : si2 m (tk' m (k + 1 + 1) (roM m (k + 1) (nI 3) (wI (wI (wI M m 9 (nI (k + 1))) t 16 (nI (b + 1))) (t + 13) (min b 6) (mI M t 22)))) (mst1 vs m t 53 (k + 1) M) := by
      unfold mst1
      rw [if_neg (by decide), if_neg (by decide), if_neg (by decide), if_neg (by decide), if_pos rfl, cn_e hb (by omega)]
      refine si2_tr si2_tk (fun x y => ?_)
      have tw : ∀ X i j w, t ≤ i → wI (td' m x y X) i j w = td' m x y (wI X i j w) := fun X i j w h => td_w (t := t) (by omega)
      have e1 : ∀ X v w, wI (wI (roM m (k + 1) (nI 3) X) (t + 13) (min b 6) v) t 16 w = roM m (k + 1) (nI 3) (wI (wI X t 16 w) (t + 13) (min b 6) v) := fun X v w => by
        unfold roM
        rw [wI_cm (a := m + 5) (b := t + 13) (.inl (by omega)), wI_cm (a := m + 5) (b := t) (.inl (by omega)), wI_cm (a := t + 13) (b := t) (.inl (by omega))]
      rw [e1, ← td_r, ← td_r, ← tw _ (t + 13) _ _ (by omega), ← tw _ t _ _ (Nat.le_refl _), ← tw _ (t + 13) _ _ (by omega), ← tw _ t _ _ (Nat.le_refl _), show td' m x y (wI M m 9 (nI (k + 1))) = td' m x y M from si2_tk x y]
    generalize tk' m (k + 1 + 1) (roM m (k + 1) (nI 3) (wI (wI (wI M m 9 (nI (k + 1))) t 16 (nI (b + 1))) (t + 13) (min b 6) (mI M t 22))) = Y at Q4 b15 b16 s2
    refine ML_app ht (show em (53, k + 1) (k + 1 + 1) = some (some [(53, k + 1)], k + 1 + 1) from rfl) s2 ?_
    rw [ck_t (t13 _ Q4.1)]
    refine ML_tk W Q4 hk2 (by decide) (y_tk (a := 11) W Q4 hk2 (by decide)) (fun X h1 QX o => ?_)
    rw [← o] at b15 b16
    rw [ck_t (t13 _ QX.1)]
    refine ML_as (c := 62) (v := 12) W QX h1 (.inl rfl) (by decide) rfl rfl (fun X h1 QX o => ?_)
    rw [← o] at b15 b16
    exact M_mbL W (fun M k Q hk h16 h15 c => M_84 W hN Q hk h16 hb2 h15 c) 401 _ X QX h1 b16 ⟨a, ha2, b15⟩
  · rw [if_neg d, if_neg d, bd_S, if_pos rfl]
    exact ML_ft rfl Q3.1 Q3.2.1 hk1
/-! the text -/
theorem M_txL {g vs : Nat → Nat} {K m t : Nat} {M0 : gMem} (W : MWd g K m t M0) (hN : ∀ X k, MI m t M0 X → k ≤ K → g k = 41 → f_X14_numberAt X m (nI k) = some (nI (vs k), X)) : ∀ q k M a b, mQk m t 0 M0 M k → k ≤ K → mI M t 15 = nI a → a ≤ k → mI M t 16 = nI b → b ≤ k → MLl vs K m t M0 M (txL g q k) (lp_X14_isText_0 M m)
  | 0, _, _, _, _, _, _, _, _, _, _ => trivial
  | q + 1, k, M, a, b, Q, hk, ha, ha2, hb, hb2 => by
    have ht := W.1.2.2
    have hK := W.2.2.2.1
    have H := W.2.2.2.2
    have t13 : ∀ X, MI m t M0 X → mT X m = 13 := fun X CX => (MI_B W.1 CX).1.1
    obtain ⟨-, mi, i900, -⟩ := mk_i (g k) (W.2.2.1 k)
    have i0 := mi 0 (by decide) (by decide)
    have i3 := mi 3 (by decide) (by decide)
    have i7 := mi 7 (by decide) (by decide)
    have i10 := mi 10 (by decide) (by decide)
    have t0 := t13 _ Q.1
    rw [txL]
    by_cases c42 : g k = 42
    · rw [if_pos c42]
      refine ⟨M, lp_oI1 ?_, Q, hk, fun _ _ => rfl⟩
      show bb_X14_isText_0 M m = _
      unfold bb_X14_isText_0
      rw [ck_t t0, show (900 : Int32) = nI 900 from rfl, M_is W Q.1 Q.2.1 hk (by decide), if_pos (i900.mpr c42), bd_S, if_neg (show ¬ (1 : Int32) = 0 by decide)]
    rw [if_neg c42]
    have line : ∀ y : Option (Int32 × gMem), MLl vs K m t M0 M (ln1 g k) y → bb_X14_isText_0 M m = (bd y fun r M => b_X14_isText_77 M m r) → MLl vs K m t M0 M (sq (ln1 g k) fun k => sq (tk1 g 29 k) (txL g q)) (lp_X14_isText_0 M m) := fun y hy hbb => by
      have fe := (NN_ln1 H hK hk).1
      match hx : ln1 g k, hy, fe with
      | none, _, _ => trivial
      | some (none, e), ⟨M1, k1, k2, k3, k4⟩, _ =>
        rw [k1, bd_S] at hbb
        unfold b_X14_isText_77 b_X14_isText_91 at hbb
        rw [if_pos rfl] at hbb
        exact ⟨M1, lp_oI1 hbb, k2, k3, k4⟩
      | some (some es, e), ⟨M1, k1, k2, k3, k4⟩, fe =>
        rw [k1, bd_S] at hbb
        unfold b_X14_isText_77 b_X14_isText_91 at hbb
        have i29 := (mk_s (g e) (W.2.2.1 e)).2.2.2.2.1
        rw [if_neg (by decide), ck_t (t13 _ k2.1), show (59 : Int32) = nI 59 from rfl, M_eatSign W k2.1 k2.2.1 k3 (by decide), if_cg i29] at hbb
        have n1 := ES_nc es k e fe.2.2.1
        obtain ⟨c1, c2⟩ := mr_c (vs := vs) ht es M a b ha hb (by omega) (by omega)
        rw [← si2_I k4 (by omega)] at c1 c2
        refine ML_app ht rfl k4 ?_
        by_cases d : g e = 29
        · rw [if_pos d, bd_S, if_neg (show ¬ (1 : Int32) = 0 by decide)] at hbb
          have hk1 := H e k3 (by omega)
          have o : ∀ j, mI (tk' m (e + 1) M1) t j = mI M1 t j := fun j => wI_o (.inl (by omega))
          have key := M_txL W hN q (e + 1) (tk' m (e + 1) M1) (a + nc 54 es) (b + nc 53 es) (mQk_tk ht k2) hk1 (by rw [o]; exact c1) (by omega) (by rw [o]; exact c2) (by omega)
          have e1 : lp_X14_isText_0 M m = lp_X14_isText_0 (tk' m (e + 1) M1) m := lp_in hbb
          rw [e1]
          exact ML_app ht (show tk1 g 29 e = some (some [], e + 1) from if_pos d) si2_tk key
        · rw [if_neg d, bd_S, if_pos rfl] at hbb
          rw [show tk1 g 29 e = ft e from if_neg d]
          exact ML_ft (lp_oI1 hbb) k2.1 k2.2.1 k3
    have hd : bb_X14_isText_0 M m = (if g k = 0 then bd (f_X14_isGroundLine M m) fun r M => b_X14_isText_77 M m r else if g k = 3 then bd (f_X14_isFisherLine M m) fun r M => b_X14_isText_77 M m r else if g k = 7 then bd (f_X14_isGoLine M m) fun r M => b_X14_isText_77 M m r else if g k = 10 then bd (f_X14_isPactLine M m) fun r M => (if r = 0 then b_X14_isText_76 M m else b_X14_isText_77 M m 1) else b_X14_isText_76 M m) := by
      unfold bb_X14_isText_0
      rw [ck_t t0, show (900 : Int32) = nI 900 from rfl, M_is W Q.1 Q.2.1 hk (by decide), if_neg (fun z => c42 (i900.mp z)), bd_S, if_pos rfl, ck_t t0, show f_X14_is M m (0 : Int32) = _ from M_is (c := 0) W Q.1 Q.2.1 hk (by decide)]
      by_cases d0 : g k = 0
      · rw [if_pos (i0.mpr d0), bd_S, if_neg (show ¬ (1 : Int32) = 0 by decide), ck_t t0, if_pos d0]
      rw [if_neg (fun z => d0 (i0.mp z)), bd_S, if_pos rfl, if_neg d0, ck_t t0, show (3 : Int32) = nI 3 from rfl, M_is W Q.1 Q.2.1 hk (by decide)]
      by_cases d1 : g k = 3
      · rw [if_pos (i3.mpr d1), bd_S, if_neg (show ¬ (1 : Int32) = 0 by decide), ck_t t0, if_pos d1]
      rw [if_neg (fun z => d1 (i3.mp z)), bd_S, if_pos rfl, if_neg d1, ck_t t0, show (7 : Int32) = nI 7 from rfl, M_is W Q.1 Q.2.1 hk (by decide)]
      by_cases d2 : g k = 7
      · rw [if_pos (i7.mpr d2), bd_S, if_neg (show ¬ (1 : Int32) = 0 by decide), ck_t t0, if_pos d2]
      rw [if_neg (fun z => d2 (i7.mp z)), bd_S, if_pos rfl, if_neg d2, ck_t t0, show (10 : Int32) = nI 10 from rfl, M_is W Q.1 Q.2.1 hk (by decide)]
      by_cases d3 : g k = 10
      · rw [if_pos (i10.mpr d3), bd_S, if_neg (show ¬ (1 : Int32) = 0 by decide), ck_t t0, if_pos d3]
      · rw [if_neg (fun z => d3 (i10.mp z)), bd_S, if_pos rfl, if_neg d3]
    by_cases d0 : g k = 0
    · exact line _ (by unfold ln1; rw [if_pos d0]; exact M_lnG W Q hk d0) (by rw [hd, if_pos d0])
    by_cases d1 : g k = 3
    · exact line _ (by unfold ln1; rw [if_neg d0, if_pos d1]; exact M_lnF W Q hk d1) (by rw [hd, if_neg d0, if_pos d1])
    by_cases d2 : g k = 7
    · exact line _ (by unfold ln1; rw [if_neg d0, if_neg d1, if_pos d2]; exact M_lnO W hN Q hk d2 ha (by omega) hb (by omega)) (by rw [hd, if_neg d0, if_neg d1, if_pos d2])
    by_cases d3 : g k = 10
    · have key := M_lnP W hN Q hk d3 ha (by omega) hb (by omega)
      refine line (f_X14_isPactLine M m) (by unfold ln1; rw [if_neg d0, if_neg d1, if_neg d2, if_pos d3]; exact key) ?_
      rw [hd, if_neg d0, if_neg d1, if_neg d2, if_pos d3]
      have ne : lnP g k ≠ none := by
        have := NN_ln1 H hK hk
        unfold ln1 at this
        rw [if_neg d0, if_neg d1, if_neg d2, if_pos d3] at this
        exact this.2
      match hx : lnP g k, key, ne with
      | none, _, ne => exact absurd rfl ne
      | some (none, e), ⟨M1, k1, _⟩, _ => rw [k1, bd_S, bd_S, if_pos rfl]; rfl
      | some (some es, e), ⟨M1, k1, _⟩, _ => rw [k1, bd_S, bd_S, if_neg (show ¬ (1 : Int32) = 0 by decide)]
    · refine line (some ((0 : Int32), M)) (by unfold ln1; rw [if_neg d0, if_neg d1, if_neg d2, if_neg d3]; exact ⟨M, rfl, Q.1, Q.2.1, hk⟩) ?_
      rw [hd, if_neg d0, if_neg d1, if_neg d2, if_neg d3, bd_S]
      rfl
