/-! ## Pure: count -/
theorem sumN_add {f : Nat → Int32} {a : Nat} : ∀ b, sumN f (a + b) = sumN f a + sumN (fun k => f (a + k)) b
  | 0 => by show _ = _ + (0 : Int32); rw [Int32.add_zero]; rfl
  | b + 1 => by
    show sumN f (a + b) + f (a + b) = sumN f a + (sumN (fun k => f (a + k)) b + f (a + b))
    rw [sumN_add b, Int32.add_assoc]
theorem sumN_5 {f : Nat → Int32} : ∀ n, sumN f (5 * n) = sumN (fun g => sumN (fun k => f (5 * g + k)) 5) n
  | 0 => rfl
  | n + 1 => by
    rw [show 5 * (n + 1) = 5 * n + 5 by omega, sumN_add, sumN_5 n]
    rfl
theorem r_sumX {m t a j : Nat} {st : Nat → Nat → Int32} {V : gMem} (L : LSt m t a V) (h1 : 1 ≤ j) (h2 : j < 17) (h : mI V (a + j) = st j) : f_X12_sum V a (some (a + j)) = some (sumN (st j) (lenS j), V) := by
  have z := r_sum (st := cutF 17 a V) L h1 h2
  rw [bC_cut, cutF_e h2, h] at z
  exact z
def cvA (A : Nat → Nat → Int32) (F G n c : Nat) : Int32 := if c = 0 then A 0 0 else if c = 1 then A 0 2 else if c = 2 then A 0 3 else if c = 3 then A 0 4 else if c = 4 then A 0 5 else if c = 5 then sumN (fun i => sum5 (A (19 + 2 * i)) 5) G else if c = 6 then sumN (fun i => A (34 + 2 * i) 4) F else if c = 7 then sumN (fun i => if A (34 + 2 * i) 1 ≤ A (34 + 2 * i) 0 then (0 : Int32) else 1) F else if c = 8 then sumN (fun i => if A (34 + 2 * i) 9 = nI 0 then (0 : Int32) else 1) F else nI n
theorem c_cv {b o F G n c : Nat} {M : gMem} (L : LC o M) (h1 : mT M b = 10) (h2 : mR M b 1 = some o) (h0 : mR M b 0 = some (b + 1)) (t9 : mT M (b + 1) = 9) (hn : mI M (b + 1) 0 = nI n) (g2 : cutF 86 o M 0 2 = nI G) (g3 : cutF 86 o M 0 3 = nI F) (hG : G ≤ 8) (hF : F ≤ 8) (hc : c < 10) : f_X11_count M b (nI c) = some (.inr (cvA (cutF 86 o M) F G n c), M) := by
  have h3 : mT M o = 7 := (L 0 (by omega)).1
  have cA : sC o (cutF 86 o M) M = M := sC_cut
  have A0 : mI M o = cutF 86 o M 0 := (cutF_e (n := 86) (d := 0) (by omega)).symm
  have k5 := s7_allFish (M := M) L g2 hG
  have k6 := s7_allStores (M := M) L g3 hF
  have k7 := s7_widenedNets (M := M) L g3 hF
  have k8 := s7_allCheats (M := M) L g3 hF
  rw [cA] at k5 k6 k7 k8
  unfold f_X11_count b_X11_count_0
  obtain rfl | rfl | rfl | rfl | rfl | rfl | rfl | rfl | rfl | rfl : c = 0 ∨ c = 1 ∨ c = 2 ∨ c = 3 ∨ c = 4 ∨ c = 5 ∨ c = 6 ∨ c = 7 ∨ c = 8 ∨ c = 9 := by omega
  · rw [if_pos (by decide), ck_t h1, dr_s h2, ck_t h3, A0]
    rfl
  · rw [if_neg (by decide), if_pos (by decide), ck_t h1, dr_s h2, ck_t h3, A0]
    rfl
  · rw [if_neg (by decide), if_neg (by decide), if_pos (by decide), ck_t h1, dr_s h2, ck_t h3, A0]
    rfl
  · rw [if_neg (by decide), if_neg (by decide), if_neg (by decide), if_pos (by decide), ck_t h1, dr_s h2, ck_t h3, A0]
    rfl
  · rw [if_neg (by decide), if_neg (by decide), if_neg (by decide), if_neg (by decide), if_pos (by decide), ck_t h1, dr_s h2, ck_t h3, A0]
    rfl
  · rw [if_neg (by decide), if_neg (by decide), if_neg (by decide), if_neg (by decide), if_neg (by decide), if_pos (by decide), ck_t h1, dr_s h2, ck_t h3, bd_s k5]
    rfl
  · rw [if_neg (by decide), if_neg (by decide), if_neg (by decide), if_neg (by decide), if_neg (by decide), if_neg (by decide), if_pos (by decide), ck_t h1, dr_s h2, ck_t h3, bd_s k6]
    rfl
  · rw [if_neg (by decide), if_neg (by decide), if_neg (by decide), if_neg (by decide), if_neg (by decide), if_neg (by decide), if_neg (by decide), if_pos (by decide), ck_t h1, dr_s h2, ck_t h3, bd_s k7]
    rfl
  · rw [if_neg (by decide), if_neg (by decide), if_neg (by decide), if_neg (by decide), if_neg (by decide), if_neg (by decide), if_neg (by decide), if_neg (by decide), if_pos (by decide), ck_t h1, dr_s h2, ck_t h3, bd_s k8]
    rfl
  · rw [if_neg (by decide), if_neg (by decide), if_neg (by decide), if_neg (by decide), if_neg (by decide), if_neg (by decide), if_neg (by decide), if_neg (by decide), if_neg (by decide), if_pos (by decide), ck_t h1, dr_s h0, ck_t t9, hn]
    rfl
theorem m_cv {m t F G np nO n c : Nat} {A st : Nat → Nat → Int32} {X : gMem} (LA : LSt m t (m + 24) X) (h13 : mR X m 13 = some (m + 24)) (eS : bC 17 (m + 24) st X = X) (hm : m + 41 ≤ mN X) (ht : t + 17 ≤ mN X) (x : mI X t 0 = nI G ∧ mI X t 4 = nI F ∧ mI X t 8 = nI nO ∧ mI X t 11 = nI np) (a : A 0 2 = nI G ∧ A 0 3 = nI F ∧ A 0 4 = nI nO ∧ A 0 5 = nI np) (hn : mI X m 2 = nI n) (hF : F ≤ 8) (hG : G ≤ 8) (tg : ∀ f, f < F → mI X (t + 3) f = A (34 + 2 * f) 0) (R : RS A st F G np) (hc : c < 10) : ∃ vs, f_X14_counted X m (nI c) = some (cvA A F G n c, aN X 10 vs 10) := by
  obtain ⟨vs, hvs⟩ : ∃ vs : Nat → Int32, vs = fun i => cvA A F G n i := ⟨_, rfl⟩
  refine ⟨vs, ?_⟩
  have sI' : ∀ d, d < 17 → mI X (m + 24 + d) = st d := fun d hd => by rw [← eS]; funext k; exact bC_I hd
  have e1 : ∀ j, mT (aN X 10 vs j) m = 13 := fun j => by rw [(aN_o j (by omega)).1]; exact LA.1.2.2.1
  have e2 : ∀ j, mR (aN X 10 vs j) m 11 = some t := fun j => by rw [(aN_o j (by omega)).2.2.1]; exact LA.1.2.2.2.1
  have e3 : ∀ j, mR (aN X 10 vs j) m 13 = some (m + 24) := fun j => by rw [(aN_o j (by omega)).2.2.1]; exact h13
  have e4 : ∀ j, mT (aN X 10 vs j) t = 12 := fun j => by rw [(aN_o j (by omega)).1]; exact LA.1.2.2.2.2
  have e5 : ∀ j, mT (aN X 10 vs j) (m + 24) = 11 := fun j => by rw [(aN_o j (by omega)).1]; exact LA.1.1
  have hL : ∀ j, LSt m t (m + 24) (aN X 10 vs j) := fun j => LS_aN LA (by omega) (by omega) (by omega)
  have tN : ∀ j, mT (aN X 10 vs j) (mN X) = 20 := fun j => by rw [(aN_f j).1]; exact if_pos rfl
  have lN : ∀ j, mL (aN X 10 vs j) (mN X) = 10 := fun j => by rw [(aN_f j).2.1]; exact if_pos rfl
  have rI : ∀ j a, a < mN X → mI (aN X 10 vs j) a = mI X a := fun j a h => (aN_o j h).2.2.2
  have z0 : nW X 20 ((10 : Int32)).toNatClampNeg = aN X 10 vs 0 := rfl
  have hS : ∀ j r, 1 ≤ r → r < 17 → mR (aN X 10 vs j) (m + 24) (r + 1) = some (m + 24 + r) := fun j r r1 r2 => ((hL j).2.2.1 r r1 r2).2.2
  have sum : ∀ j r, 1 ≤ r → r < 17 → f_X12_sum (aN X 10 vs j) (m + 24) (some (m + 24 + r)) = some (sumN (st r) (lenS r), aN X 10 vs j) := fun j r r1 r2 => r_sumX (hL j) r1 r2 (by rw [rI _ _ (by omega), sI' r r2])
  have s0 : mI X (m + 24) 0 = A 0 0 := by rw [show m + 24 = m + 24 + 0 from rfl, sI' 0 (by omega)]; exact R.1.1
  have w0 : mI (aN X 10 vs 0) (m + 24) 0 = vs 0 := by rw [rI _ _ (by omega), s0, hvs]; rfl
  have w1 : mI (aN X 10 vs 1) t 0 = vs 1 := by rw [rI _ _ (by omega), x.1, ← a.1, hvs]; rfl
  have w2 : mI (aN X 10 vs 2) t 4 = vs 2 := by rw [rI _ _ (by omega), x.2.1, ← a.2.1, hvs]; rfl
  have w3 : mI (aN X 10 vs 3) t 8 = vs 3 := by rw [rI _ _ (by omega), x.2.2.1, ← a.2.2.1, hvs]; rfl
  have w4 : mI (aN X 10 vs 4) t 11 = vs 4 := by rw [rI _ _ (by omega), x.2.2.2, ← a.2.2.2, hvs]; rfl
  have w5 : sumN (st 1) (lenS 1) = vs 5 := by
    rw [hvs]
    show sumN (st 1) 40 = sumN (fun i => sum5 (A (19 + 2 * i)) 5) G
    rw [sumN_ext (n := 5 * G) 40 (by omega) fun i i1 i2 => R.2.2.1 i i1 i2, sumN_5]
    exact sumN_c G fun g hg => (sum5_N 5 (f := A (19 + 2 * g)) (h := fun k => st 1 (5 * g + k)) (fun k hk => (R.1.2.1 g k hg hk).symm)).symm
  have w6 : sumN (st 5) (lenS 5) = vs 6 := by
    rw [hvs]
    show sumN (st 5) 8 = sumN (fun i => A (34 + 2 * i) 4) F
    rw [sumN_ext (n := F) 8 hF fun i i1 i2 => (R.2.2.2.2.2.1 i i1 i2).1]
    exact sumN_c F fun i hi => (R.1.2.2.2 i hi).2.1
  obtain ⟨wf, hwf⟩ : ∃ wf : Nat → Int32, wf = fun i => if A (34 + 2 * i) 1 ≤ A (34 + 2 * i) 0 then (0 : Int32) else 1 := ⟨_, rfl⟩
  have w7 : sumN wf F = vs 7 := by rw [hvs, hwf]; rfl
  have w8 : sumN (st 9) (lenS 9) = vs 8 := by rw [hvs, RS_chs hF R]; rfl
  have w9 : mI (aN X 10 vs 9) m 2 = vs 9 := by rw [rI _ _ (by omega), hn, hvs]; rfl
  have h4 := LA.2.2.1 4 (by omega) (by omega)
  have hd := LA.2.2.2.1 3 (by omega) (by omega)
  have hr : mR X t 5 = some (t + 3) := LA.2.2.2.2 5 (by omega) (by decide)
  unfold f_X14_counted b_X14_counted_0 lp_X14_counted_4
  refine lp_seq (f := fun (q : gMem × Int32 × Int32) => bb_X14_counted_4 q.1 m (nI c) q.2.1 q.2.2) (fun j => (X, sumN wf j, nI j)) 0 F (Nat.zero_le _) (fun j _ hj => ?_) ?_
  · show bb_X14_counted_4 X m (nI c) _ (nI j) = _
    have q1 : ¬ nI F ≤ nI j := fun q => by have := (nI_leI (by omega) (by omega)).mp q; omega
    have i8 : inb (nI j) 8 := (inbN (by omega)).mpr (by omega)
    have r4 : mI X (m + 24 + 4) (nI j).toNatClampNeg = A (34 + 2 * j) 1 := by rw [nI_clamp (by omega), sI' 4 (by omega)]; exact (R.1.2.2.2 j hj).1
    have r3 : mI X (t + 3) (nI j).toNatClampNeg = A (34 + 2 * j) 0 := by rw [nI_clamp (by omega)]; exact tg j hj
    unfold bb_X14_counted_4 b_X14_counted_42
    rw [ck_t LA.1.2.2.1, dr_s LA.1.2.2.2.1, ck_t LA.1.2.2.2.2, x.2.1, if_neg q1, dr_s h13, ck_t LA.1.1, dr_s h4.2.2, ck_t h4.1, h4.2.1, ck_t (show inb (nI j) (lenS 4) from i8), dr_s hr, ck_t hd.1, hd.2, ck_t (show inb (nI j) (lenD 3) from i8), r4, r3, nI_1]
    have hs : sumN wf (j + 1) = sumN wf j + wf j := rfl
    by_cases q : A (34 + 2 * j) 1 ≤ A (34 + 2 * j) 0
    · rw [if_pos q, hs, hwf]
      show _ = some (Sum.inl (X, _ + (if A (34 + 2 * j) 1 ≤ A (34 + 2 * j) 0 then (0 : Int32) else 1), nI (j + 1)))
      rw [if_pos q]
    · rw [if_neg q, hs, hwf]
      show _ = some (Sum.inl (X, _ + (if A (34 + 2 * j) 1 ≤ A (34 + 2 * j) 0 then (0 : Int32) else 1), nI (j + 1)))
      rw [if_neg q]
  · show bb_X14_counted_4 X m (nI c) _ (nI F) = _
    unfold bb_X14_counted_4
    rw [ck_t LA.1.2.2.1, dr_s LA.1.2.2.2.1, ck_t LA.1.2.2.2.2, x.2.1, if_pos (nI_le (Nat.le_refl _) (by omega)), lw_S, z0]
    rw [ck_t (e1 0), dr_s (e3 0), ck_t (e5 0), ck_t (tN 0), lN 0, ck_t (show inb (0 : Int32) 10 by decide), ar_s (j := 0) (by decide) w0]
    rw [dr_s (e2 1), ck_t (e4 1), lN 1, ck_t (show inb (1 : Int32) 10 by decide), ar_s (j := 1) (by decide) w1]
    rw [dr_s (e2 2), ck_t (e4 2), lN 2, ck_t (show inb (2 : Int32) 10 by decide), ar_s (j := 2) (by decide) w2]
    rw [dr_s (e2 3), ck_t (e4 3), lN 3, ck_t (show inb (3 : Int32) 10 by decide), ar_s (j := 3) (by decide) w3]
    rw [dr_s (e2 4), ck_t (e4 4), lN 4, ck_t (show inb (4 : Int32) 10 by decide), ar_s (j := 4) (by decide) w4]
    rw [dr_s (e3 5), ck_t (e5 5), show mR (aN X 10 vs (4 + 1)) (m + 24) 2 = some (m + 24 + 1) from hS 5 1 (by omega) (by omega), bd_s (sum 5 1 (by omega) (by omega)), ck_t (tN 5), lN 5, ck_t (show inb (5 : Int32) 10 by decide), ar_s (j := 5) (by decide) w5]
    rw [ck_t (e1 6), dr_s (e3 6), ck_t (e5 6), show mR (aN X 10 vs (5 + 1)) (m + 24) 6 = some (m + 24 + 5) from hS 6 5 (by omega) (by omega), bd_s (sum 6 5 (by omega) (by omega)), ck_t (tN 6), lN 6, ck_t (show inb (6 : Int32) 10 by decide), ar_s (j := 6) (by decide) w6]
    rw [lN 7, ck_t (show inb (7 : Int32) 10 by decide), ar_s (j := 7) (by decide) w7]
    rw [ck_t (e1 8), dr_s (e3 8), ck_t (e5 8), show mR (aN X 10 vs (7 + 1)) (m + 24) 10 = some (m + 24 + 9) from hS 8 9 (by omega) (by omega), bd_s (sum 8 9 (by omega) (by omega)), ck_t (tN 8), lN 8, ck_t (show inb (8 : Int32) 10 by decide), ar_s (j := 8) (by decide) w8]
    rw [ck_t (e1 9), lN 9, ck_t (show inb (9 : Int32) 10 by decide), ar_s (j := 9) (by decide) w9]
    rw [lN 10, ck_t (show inb (nI c) 10 from (inbN (by omega)).mpr hc), nI_clamp (by omega), aN_N rfl, if_pos hc, hvs]
    rfl
theorem T_count {Z : Nat → Nat} {b m o o' t n kb : Nat} {T : Nat → Nat} {M : gMem} {x : Int32} (S : STv Z b m o o' t n kb T M) : ∃ r v M2, f_X11_count M b x = some (r, M) ∧ f_X14_count M m x = some (v, M2) ∧ AGR 2 9 r v (mI M2 m 0) ∧ STv Z b m o o' t n kb T M2 ∧ mN M ≤ mN M2 ∧ mN M2 ≤ mN M + 1 := by
  obtain ⟨c1, c2, LCo, c3, cA⟩ := STv_c S
  obtain ⟨e1, e2, e3, LA, eS, eI, e4, e5, e6⟩ := STv_m 0 S
  obtain ⟨pg, len, F, G, np, nO, ⟨-, -, W, D, TRr, R, V⟩, hG, hF, g2, g3, x0, x4, t13⟩ := STv_w S
  have tI : ∀ j, mI (wI M m 0 0) (t + j) = mI M (t + j) := fun j => eI _ (by omega)
  by_cases hx : ∃ c, c < 10 ∧ x = nI c
  · have xx := hx
    obtain ⟨c, hc, hxc⟩ := xx
    subst hxc
    obtain ⟨vs, mg⟩ := m_cv (c := c) (n := n) (A := cutF 86 o M) LA e3 eS (show m + 41 ≤ mN M by have := S.2.2.1.2.2.2; omega) (show t + 17 ≤ mN M by have := S.2.2.1.2.2.2; omega) (by rw [eI t (by omega)]; exact TRr.1) ⟨W.1, W.2.2.1, W.2.2.2.2.2.1.1, W.2.2.2.2.1.1⟩ (by rw [wI_o (.inr (by decide))]; exact S.2.2.1.1.2.2.1) hF hG (fun f hf => by rw [tI 3]; exact (TRr.2.2.1 f hf).1) R hc
    have a0 : mI (aN (wI M m 0 0) 10 vs 10) m 0 = 0 := by rw [(aN_o (X := wI M m 0 0) 10 (show m < mN M by have := S.2.2.1.2.2.2; omega)).2.2.2, wI_e]
    have aM : mN (aN (wI M m 0 0) 10 vs 10) = mN M + 1 := (aN_f 10).2.2.2.1
    refine ⟨.inr (cvA (cutF 86 o M) F G n c), cvA (cutF 86 o M) F G n c, aN (wI M m 0 0) 10 vs 10, c_cv LCo c1 c2 S.2.1.1.2.1 S.2.1.2.2.1.1.1 S.2.1.2.2.1.2.2.1 W.1 W.2.2.1 hG hF hc, ?_, .inl ⟨rfl, a0⟩, STv_aN (STv_0 S), by omega, by omega⟩
    unfold f_X14_count b_X14_count_0
    rw [ck_t t13, lw_S, bd_s ((m_inC (n := 10) (by decide) (by omega)).1 hx), if_neg (show ¬ (1 : Int32) = 0 by decide), ck_t e1, bd_s mg]
    rfl
  · have ny : ∀ c, c < 10 → ¬ x = nI c := fun c h z => hx ⟨c, h, z⟩
    refine ⟨.inl 2, 0, wI (wI M m 0 0) m 0 1, ?_, ?_, .inr (.inl ⟨rfl, wI_e _ _ _ _⟩), STv_0 (STv_0 S), Nat.le_refl _, Nat.le_succ _⟩
    · unfold f_X11_count b_X11_count_0
      rw [if_neg (show ¬ x = (0 : Int32) from ny 0 (by omega)), if_neg (show ¬ x = (1 : Int32) from ny 1 (by omega)), if_neg (show ¬ x = (2 : Int32) from ny 2 (by omega)), if_neg (show ¬ x = (3 : Int32) from ny 3 (by omega)), if_neg (show ¬ x = (4 : Int32) from ny 4 (by omega)), if_neg (show ¬ x = (5 : Int32) from ny 5 (by omega)), if_neg (show ¬ x = (6 : Int32) from ny 6 (by omega)), if_neg (show ¬ x = (7 : Int32) from ny 7 (by omega)), if_neg (show ¬ x = (8 : Int32) from ny 8 (by omega)), if_neg (show ¬ x = (9 : Int32) from ny 9 (by omega))]
    · unfold f_X14_count b_X14_count_0 b_X14_count_28
      rw [ck_t t13, lw_S, bd_s ((m_inC (n := 10) (by decide) (by omega)).2 hx), if_pos rfl, ck_t e1, bd_s (m_no e1)]
