/-! ## Pure: the reference's lines of grounds and fishers -/
def MLl (vs : Nat → Nat) (K m t : Nat) (M0 M : gMem) (x : Option (Option (List (Nat × Nat)) × Nat)) (y : Option (Int32 × gMem)) : Prop :=
  match x with
  | none => True
  | some (none, e) => ∃ M1, y = some ((0 : Int32), M1) ∧ MI m t M0 M1 ∧ mI M1 m 9 = nI e ∧ e ≤ K
  | some (some es, e) => ∃ M1, y = some ((1 : Int32), M1) ∧ mQk m t 0 M0 M1 e ∧ e ≤ K ∧ si2 m M1 (mrn vs m t es M)
theorem ML_app {vs : Nat → Nat} {K m t : Nat} {M0 M M1 : gMem} {x : Option (Option (List (Nat × Nat)) × Nat)} {es : List (Nat × Nat)} {e : Nat} {f : Nat → Option (Option (List (Nat × Nat)) × Nat)} {y : Option (Int32 × gMem)} (ht : m + 7 ≤ t) (hx : x = some (some es, e)) (hs : si2 m M1 (mrn vs m t es M)) (h : MLl vs K m t M0 M1 (f e) y) : MLl vs K m t M0 M (sq x f) y := by
  subst hx
  show MLl vs K m t M0 M (match f e with
    | none => none
    | some (none, k1) => some (none, k1)
    | some (some es1, k1) => some (some (es ++ es1), k1)) y
  match f e, h with
  | none, _ => trivial
  | some (none, e1), h => exact h
  | some (some es1, e1), ⟨M2, k1, k2, k3, k4⟩ => exact ⟨M2, k1, k2, k3, by rw [mrn_app]; exact si2_tr k4 (si2_rn ht es1 hs)⟩
theorem ML_ft {vs : Nat → Nat} {K m t e : Nat} {M0 M M1 : gMem} {f : Nat → Option (Option (List (Nat × Nat)) × Nat)} {y : Option (Int32 × gMem)} (h : y = some ((0 : Int32), M1)) (C : MI m t M0 M1) (h9 : mI M1 m 9 = nI e) (he : e ≤ K) : MLl vs K m t M0 M (sq (ft e) f) y := ⟨M1, h, C, h9, he⟩
/-- a token -/
theorem ML_tk {g vs : Nat → Nat} {K m t : Nat} {M0 : gMem} (W : MWd g K m t M0) {a e : Nat} {M : gMem} {f : Nat → Option (Option (List (Nat × Nat)) × Nat)} {y : Option (Int32 × gMem)} {B : gMem → Option (Int32 × gMem)} (Q : mQk m t 0 M0 M e) (he : e ≤ K) (ha : a < 42) (hy : y = if g e = a then some ((1 : Int32), tk' m (e + 1) M) else some ((0 : Int32), M)) (hB : ∀ X, e + 1 ≤ K → mQk m t 0 M0 X (e + 1) → (∀ j, mI X t j = mI M t j) → MLl vs K m t M0 X (f (e + 1)) (B X)) : MLl vs K m t M0 M (sq (tk1 g a e) f) (bd y fun r1 M1 => if r1 = 0 then some ((0 : Int32), M1) else B M1) := by
  have ht := W.1.2.2
  by_cases c : g e = a
  · rw [if_pos c] at hy
    rw [hy, bd_S, if_neg (show ¬ (1 : Int32) = 0 by decide)]
    exact ML_app ht (show tk1 g a e = some (some [], e + 1) from if_pos c) si2_tk (hB _ (W.2.2.2.2 e he (by omega)) (mQk_tk ht Q) (fun j => wI_o (.inl (by omega))))
  · rw [if_neg c] at hy
    rw [show tk1 g a e = ft e from if_neg c]
    exact ML_ft (by rw [hy, bd_S, if_pos rfl]) Q.1 Q.2.1 he
theorem ro_Q {m t e i : Nat} {v : Int32} {M0 M : gMem} (ht : m + 7 ≤ t) (Q : mQk m t 0 M0 M e) : mQk m t 0 M0 (roM m i v M) e := by
  obtain ⟨C, h9, h10, ⟨L, l1, l2⟩, ⟨n, n1, n2⟩⟩ := Q
  refine ⟨MI_w C (.inr (.inl rfl)) ht, ?_, ?_, ⟨L, l1, ?_⟩, ⟨n, n1, ?_⟩⟩
  · unfold roM; rw [wI_o (.inl (by omega))]; exact h9
  · unfold roM; rw [wI_o (.inl (by omega))]; exact h10
  · unfold roM; rw [wI_o (.inl (by omega))]; exact l2
  · unfold roM; rw [wI_o (.inl (by omega))]; exact n2
theorem ms_ro {vs : Nat → Nat} {m t c i : Nat} {M : gMem} (h : (51 ≤ c ∧ c ≤ 63 ∧ c ≠ 53 ∧ c ≠ 54) ∨ 1000 ≤ c) : mst1 vs m t c i M = roM m i (nI (if 1000 ≤ c then 6 else c - 50)) M := by
  unfold mst1
  rw [if_neg (by omega), if_neg (by omega), if_neg (by omega), if_neg (by omega), if_neg (by omega), if_neg (by omega), if_neg (by omega), if_neg (by omega)]
  by_cases c1 : 1000 ≤ c
  · rw [if_pos c1, if_pos c1]
  · rw [if_neg c1, if_neg c1, if_pos (by omega)]
/-- a name or number of this line -/
theorem ML_as {g vs : Nat → Nat} {K m t : Nat} {M0 : gMem} (W : MWd g K m t M0) {q c e v : Nat} {M : gMem} {f : Nat → Option (Option (List (Nat × Nat)) × Nat)} {y : Option (Int32 × gMem)} {B : gMem → Option (Int32 × gMem)} (Q : mQk m t 0 M0 M e) (he : e ≤ K) (hq : q = 40 ∨ q = 41) (hc : (51 ≤ c ∧ c ≤ 63 ∧ c ≠ 53 ∧ c ≠ 54) ∨ 1000 ≤ c) (hv : (if 1000 ≤ c then 6 else c - 50) = v) (hy : y = f_X14_eatAs M m (nI q) (nI v)) (hB : ∀ X, e + 1 ≤ K → mQk m t 0 M0 X (e + 1) → (∀ j, mI X t j = mI M t j) → MLl vs K m t M0 X (f (e + 1)) (B X)) : MLl vs K m t M0 M (sq (if g e = q then em (c, e) (e + 1) else ft e) f) (bd y fun r1 M1 => if r1 = 0 then some ((0 : Int32), M1) else B M1) := by
  have ht := W.1.2.2
  have Q1 := ro_Q (i := e) (v := nI v) ht Q
  have iq := (mk_i (g e) (W.2.2.1 e)).2.1 q (by omega) (by omega)
  rw [M_eatAs W Q.1 Q.2.1 he (by omega), if_cg iq] at hy
  by_cases c1 : g e = q
  · rw [if_pos c1] at hy ⊢
    rw [hy, bd_S, if_neg (show ¬ (1 : Int32) = 0 by decide)]
    refine ML_app ht rfl ?_ (hB _ (W.2.2.2.2 e he (by omega)) (mQk_tk ht Q1) (fun j => ?_))
    · show si2 m _ (mst1 vs m t c e M)
      rw [ms_ro hc, hv]
      exact si2_tk
    · unfold tk' roM
      rw [wI_o (.inl (by omega)), wI_o (.inl (by omega))]
  · rw [if_neg c1] at hy ⊢
    exact ML_ft (by rw [hy, bd_S, if_pos rfl]) Q1.1 Q1.2.1 he
/-- the last name or number of a line -/
theorem ML_al {g vs : Nat → Nat} {K m t : Nat} {M0 : gMem} (W : MWd g K m t M0) {q c e v : Nat} {M : gMem} {y : Option (Int32 × gMem)} (Q : mQk m t 0 M0 M e) (he : e ≤ K) (hq : q = 40 ∨ q = 41) (hc : (51 ≤ c ∧ c ≤ 63 ∧ c ≠ 53 ∧ c ≠ 54) ∨ 1000 ≤ c) (hv : (if 1000 ≤ c then 6 else c - 50) = v) (hy : y = f_X14_eatAs M m (nI q) (nI v)) : MLl vs K m t M0 M (if g e = q then em (c, e) (e + 1) else ft e) (bd y fun r1 M1 => if r1 = 0 then some ((0 : Int32), M1) else some ((1 : Int32), M1)) := by
  have key := ML_as (vs := vs) (f := fun k => some (some [], k)) (B := fun M => some ((1 : Int32), M)) W Q he hq hc hv hy (fun X h1 h2 _ => ⟨X, rfl, h2, h1, fun _ _ => rfl⟩)
  rw [sq_nil] at key
  exact key
theorem M_szL {g vs : Nat → Nat} {K m t : Nat} {M0 : gMem} (W : MWd g K m t M0) : ∀ q s k M, mQk m t 0 M0 M k → k ≤ K → MLl vs K m t M0 M (szL g q s k) (lp_X14_isGroundLine_59 M m)
  | 0, _, _, _, _, _ => trivial
  | q + 1, s, k, M, Q, hk => by
    have ht := W.1.2.2
    have t13 : ∀ X, MI m t M0 X → mT X m = 13 := fun X CX => (MI_B W.1 CX).1.1
    have i30 := (mk_s (g k) (W.2.2.1 k)).2.2.2.2.2.1
    rw [szL]
    by_cases c : g k = 30
    · have hk1 := W.2.2.2.2 k hk (by omega)
      have Q1 := mQk_tk ht Q
      have i41 := (mk_i (g (k + 1)) (W.2.2.1 (k + 1))).2.1 41 (by decide) (by decide)
      rw [if_pos c]
      have e0 : bb_X14_isGroundLine_59 M m = bd (f_X14_eatAs (tk' m (k + 1) M) m (nI 41) (nI 6)) fun r4 M4 => (if r4 = 0 then oI (some ((0 : Int32), M4)) else some (.inl M4)) := by
        unfold bb_X14_isGroundLine_59
        rw [ck_t (t13 _ Q.1), show (44 : Int32) = nI 44 from rfl, M_eatSign W Q.1 Q.2.1 hk (by decide), if_pos (i30.mpr c), bd_S, if_neg (show ¬ (1 : Int32) = 0 by decide), ck_t (t13 _ Q1.1)]
        rfl
      rw [M_eatAs W Q1.1 Q1.2.1 hk1 (by decide), if_cg i41] at e0
      have Q2 := ro_Q (i := k + 1) (v := nI 6) ht Q1
      unfold nb
      by_cases d : g (k + 1) = 41
      · rw [if_pos d, bd_S, if_neg (show ¬ (1 : Int32) = 0 by decide)] at e0
        rw [if_pos d]
        have hk2 := W.2.2.2.2 (k + 1) hk1 (by omega)
        have key := M_szL (vs := vs) W q (s + 1) (k + 1 + 1) _ (mQk_tk ht Q2) hk2
        have e1 : lp_X14_isGroundLine_59 M m = lp_X14_isGroundLine_59 (tk' m (k + 1 + 1) (roM m (k + 1) (nI 6) (tk' m (k + 1) M))) m := lp_in e0
        rw [e1]
        refine ML_app ht rfl ?_ key
        show si2 m _ (mst1 vs m t (1000 + s) (k + 1) M)
        rw [ms_ro (.inr (by omega)), if_pos (by omega)]
        refine si2_tr si2_tk (fun a b => ?_)
        rw [← td_r, ← td_r, si2_tk a b]
      · rw [if_neg d, bd_S, if_pos rfl] at e0
        rw [if_neg d]
        exact ML_ft (lp_oI1 e0) Q2.1 Q2.2.1 hk1
    · rw [if_neg c]
      refine ⟨M, lp_oI1 ?_, Q, hk, fun _ _ => rfl⟩
      show bb_X14_isGroundLine_59 M m = _
      unfold bb_X14_isGroundLine_59
      rw [ck_t (t13 _ Q.1), show (44 : Int32) = nI 44 from rfl, M_eatSign W Q.1 Q.2.1 hk (by decide), if_neg (fun z => c (i30.mp z)), bd_S, if_pos rfl]
/-- eat, as a row of this line wants it -/
theorem y_tk {g : Nat → Nat} {K m t : Nat} {M0 : gMem} (W : MWd g K m t M0) {a e : Nat} {M : gMem} (Q : mQk m t 0 M0 M e) (he : e ≤ K) (ha : a ≤ 24) : f_X14_eat M m (nI a) = if g e = a then some ((1 : Int32), tk' m (e + 1) M) else some ((0 : Int32), M) := by
  rw [M_eat W Q.1 Q.2.1 he (by omega), if_cg ((mk_i (g e) (W.2.2.1 e)).2.1 a (by omega) (.inl ha))]
theorem M_lnG {g vs : Nat → Nat} {K m t : Nat} {M0 : gMem} (W : MWd g K m t M0) {k : Nat} {M : gMem} (Q : mQk m t 0 M0 M k) (hk : k ≤ K) (hg : g k = 0) : MLl vs K m t M0 M (lnG g k) (f_X14_isGroundLine M m) := by
  have ht := W.1.2.2
  have t13 : ∀ X, MI m t M0 X → mT X m = 13 := fun X CX => (MI_B W.1 CX).1.1
  have hk1 := W.2.2.2.2 k hk (by omega)
  have Q1 := mQk_tk ht Q
  unfold f_X14_isGroundLine b_X14_isGroundLine_0 b_X14_isGroundLine_57 lnG
  rw [ck_t (t13 _ Q.1), Q.2.1, nI_1, lw_S]
  refine ML_app ht (show tk1 g 0 k = some (some [], k + 1) from if_pos hg) (si2_tk (k := k + 1)) ?_
  refine ML_as (c := 51) (v := 1) W Q1 hk1 (.inl rfl) (by decide) rfl rfl (fun X h1 QX _ => ?_)
  rw [ck_t (t13 _ QX.1)]
  refine ML_tk W QX h1 (by decide) (y_tk (a := 1) W QX h1 (by decide)) (fun X h1 QX _ => ?_)
  rw [ck_t (t13 _ QX.1)]
  refine ML_as (c := 55) (v := 5) W QX h1 (.inr rfl) (by decide) rfl rfl (fun X h1 QX _ => ?_)
  rw [ck_t (t13 _ QX.1)]
  refine ML_tk W QX h1 (by decide) (y_tk (a := 2) W QX h1 (by decide)) (fun X h1 QX _ => ?_)
  rw [ck_t (t13 _ QX.1)]
  refine ML_as (c := 1001) (v := 6) W QX h1 (.inr rfl) (by decide) rfl rfl (fun X h1 QX _ => ?_)
  exact M_szL W 401 2 _ X QX h1
theorem M_lnF {g vs : Nat → Nat} {K m t : Nat} {M0 : gMem} (W : MWd g K m t M0) {k : Nat} {M : gMem} (Q : mQk m t 0 M0 M k) (hk : k ≤ K) (hg : g k = 3) : MLl vs K m t M0 M (lnF g k) (f_X14_isFisherLine M m) := by
  have ht := W.1.2.2
  have t13 : ∀ X, MI m t M0 X → mT X m = 13 := fun X CX => (MI_B W.1 CX).1.1
  have hk1 := W.2.2.2.2 k hk (by omega)
  have Q1 := mQk_tk ht Q
  have e82 : ∀ X, b_X14_isFisherLine_82 X = some ((0 : Int32), X) := fun X => by
    unfold b_X14_isFisherLine_82 b_X14_isFisherLine_83
    rw [ck_t (.inl rfl)]
  have e83 : ∀ X, b_X14_isFisherLine_83 X 1 = some ((1 : Int32), X) := fun X => by
    unfold b_X14_isFisherLine_83
    rw [ck_t (.inr rfl)]
  unfold f_X14_isFisherLine b_X14_isFisherLine_0 lnF
  simp only [e82, e83]
  rw [ck_t (t13 _ Q.1), Q.2.1, nI_1, lw_S]
  refine ML_app ht (show tk1 g 3 k = some (some [], k + 1) from if_pos hg) (si2_tk (k := k + 1)) ?_
  refine ML_as (c := 52) (v := 2) W Q1 hk1 (.inl rfl) (by decide) rfl rfl (fun X h1 QX _ => ?_)
  rw [ck_t (t13 _ QX.1)]
  refine ML_tk W QX h1 (by decide) (y_tk (a := 4) W QX h1 (by decide)) (fun X h1 QX _ => ?_)
  rw [ck_t (t13 _ QX.1)]
  refine ML_as (c := 57) (v := 7) W QX h1 (.inr rfl) (by decide) rfl rfl (fun X h1 QX _ => ?_)
  rw [ck_t (t13 _ QX.1)]
  refine ML_tk W QX h1 (by decide) (y_tk (a := 5) W QX h1 (by decide)) (fun X h1 QX _ => ?_)
  rw [ck_t (t13 _ QX.1)]
  refine ML_as (c := 58) (v := 8) W QX h1 (.inr rfl) (by decide) rfl rfl (fun X h1 QX _ => ?_)
  rw [ck_t (t13 _ QX.1)]
  refine ML_tk W QX h1 (by decide) (y_tk (a := 6) W QX h1 (by decide)) (fun X h1 QX _ => ?_)
  rw [ck_t (t13 _ QX.1)]
  exact ML_al (c := 59) (v := 9) W QX h1 (.inr rfl) (by decide) rfl rfl
