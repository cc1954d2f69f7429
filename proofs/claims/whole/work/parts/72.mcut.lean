theorem mk_1 : ∀ g, g < 45 → (g < 42 → mk g < 900) ∧ (g = 42 → mk g = 900) ∧ (g = 43 → mk g = 901) ∧ mk g < 1000 := by decide +kernel
/-- what the reference's cutting leaves -/
def mcutted (T : Nat → Nat) (n m k : Nat) (I I' : Nat → Nat → Int32) : Prop :=
  (∀ i, i < k → I' (m + 2) i = nI (mk (tok T n i)) ∧ I' (m + 3) i = nI (pos T n i) ∧ I' (m + 5) i = 0 ∧ I' (m + 6) i = 0 ∧ (tok T n i < 42 → I' (m + 4) i = nI (tkE T n (pos T n i) - pos T n i))) ∧
  ∀ a, (a < m + 2 ∨ m + 6 < a) → I' a = I a
theorem m_cut {Z : Nat → Nat} {m n K : Nat} {T : Nat → Nat} {M : gMem} {I : Nat → Nat → Int32} {R : Nat → Nat → Option Nat} {J : Nat → Nat → Int64} (P : MP m n T M I R) (hK : K ≤ 400) (hlt : ∀ i, i < K → tok T n i < 42) (hge : 42 ≤ tok T n K) : ∃ I', f_X14_cut Z (gm M I R J) m = some ((), gm M I' R J) ∧ mcutted T n m (K + 1) I I' := by
  have hn2 : n ≤ 2000 := P.2.2.2.1
  have hT : ∀ q, q < n → T q < 256 := fun q hq => (P.2.2.2.2 q hq).2
  -- one token
  have step : ∀ i I1, i ≤ K → mcutted T n m i I I1 → ∃ I3, mcutted T n m (i + 1) I I3 ∧ lp_X14_cut_11 Z (gm M I1 R J) m (nI (bgn T n i)) (nI i) = if tok T n i < 42 then some (.inl (gm M I3 R J, nI (bgn T n (i + 1)), nI (i + 1))) else some (.inr ((), gm M I3 R J)) := by
    intro i I1 hi hS
    obtain ⟨s1, s2⟩ := hS
    have P1 : MP m n T M I1 R := MP_I P (by rw [s2 m (by omega)]) (fun q _ => by rw [s2 (m + 1) (by omega)])
    have i1 : inb (nI i) 401 := (inbN (by omega)).mpr (by omega)
    have t0 : ∀ I', mT (gm M I' R J) m = 13 := fun _ => P.1.1
    obtain ⟨b1, b2⟩ := pos_le T n i
    have ep := pos_b T n i
    obtain ⟨h1, h2, h3, h4⟩ := stp_p (P := isB) (T := T) (n - bgn T n i) (bgn T n i)
    have eS : stp isB T (n - bgn T n i) (bgn T n i) = pos T n i := ep.symm
    rw [eS] at h1 h2 h3 h4
    have hg := tok_lt T n i
    obtain ⟨v, hk, hv⟩ := m_kindAt (Z := Z) (J := J) (i := i) (a := pos T n i) (I := up2 (up2 (up2 I1 (m + 3) i (nI (pos T n i))) (m + 5) i 0) (m + 6) i 0) (MP_I P1 (by rw [up2_ne (by omega), up2_ne (by omega), up2_ne (by omega)]) (fun q _ => by rw [up2_ne (by omega), up2_ne (by omega), up2_ne (by omega)])) b2 (by omega)
    obtain ⟨I2, hI2⟩ : ∃ I2, I2 = (if pos T n i < n then up2 (up2 (up2 (up2 I1 (m + 3) i (nI (pos T n i))) (m + 5) i 0) (m + 6) i 0) (m + 4) i (nI v) else up2 (up2 (up2 I1 (m + 3) i (nI (pos T n i))) (m + 5) i 0) (m + 6) i 0) := ⟨_, rfl⟩
    rw [← hI2] at hk
    have fI2 : ∀ a k, (a ≠ m + 3 ∧ a ≠ m + 4 ∧ a ≠ m + 5 ∧ a ≠ m + 6) ∨ k ≠ i → I2 a k = I1 a k := by
      intro a k h
      rw [hI2]
      by_cases c : pos T n i < n
      · rw [if_pos c, up2_ne (by omega), up2_ne (by omega), up2_ne (by omega), up2_ne (by omega)]
      · rw [if_neg c, up2_ne (by omega), up2_ne (by omega), up2_ne (by omega)]
    have gI2 : I2 (m + 3) i = nI (pos T n i) ∧ I2 (m + 5) i = 0 ∧ I2 (m + 6) i = 0 := by
      rw [hI2]
      by_cases c : pos T n i < n
      · rw [if_pos c]
        refine ⟨?_, ?_, ?_⟩
        · rw [up2_ne (by omega), up2_ne (by omega), up2_ne (by omega), up2_eq]
        · rw [up2_ne (by omega), up2_ne (by omega), up2_eq]
        · rw [up2_ne (by omega), up2_eq]
      · rw [if_neg c]
        refine ⟨?_, ?_, ?_⟩
        · rw [up2_ne (by omega), up2_ne (by omega), up2_eq]
        · rw [up2_ne (by omega), up2_eq]
        · rw [up2_eq]
    have vI2 : tok T n i < 42 → I2 (m + 4) i = nI (tkE T n (pos T n i) - pos T n i) ∧ pos T n i < n ∧ tok T n i = tkG T n (pos T n i) := by
      intro h
      have ht : tok T n i = tkG T n (pos T n i) := by
        unfold tok at h ⊢
        by_cases c : i < 400 ∨ n ≤ pos T n i
        · rw [if_pos c]
        · rw [if_neg c] at h; omega
      have hp : pos T n i < n := by
        rcases Nat.lt_or_ge (pos T n i) n with q | q
        · exact q
        · rw [ht] at h
          unfold tkG at h
          rw [if_neg (by omega)] at h
          omega
      refine ⟨?_, hp, ht⟩
      rw [hI2, if_pos hp, up2_eq, hv hp (by rw [← ht]; exact h)]
    -- the kind that is written
    have hkind : ∀ b, b = (if i = 400 ∧ ¬ mk (tkG T n (pos T n i)) = 900 then 901 else mk (tkG T n (pos T n i))) → b = mk (tok T n i) := by
      intro b hb
      rw [hb]
      unfold tok
      by_cases c : i < 400 ∨ n ≤ pos T n i
      · rw [if_pos c]
        by_cases c4 : i = 400
        · have : tkG T n (pos T n i) = 42 := by unfold tkG; rw [if_neg (by omega)]
          rw [this, if_neg (fun z => z.2 rfl)]
        · rw [if_neg (fun z => c4 z.1)]
      · have h400 : i = 400 := by omega
        have hlt : pos T n i < n := by omega
        have : ¬ mk (tkG T n (pos T n i)) = 900 := by
          have hg2 := tkG_lt (T := T) (n := n) (a := pos T n i) b2
          intro z
          have h42 : tkG T n (pos T n i) = 42 := by
            rcases Nat.lt_or_ge (tkG T n (pos T n i)) 42 with q | q
            · have := (mk_1 _ hg2.1).1 q; omega
            · rcases hg2.2 q with e | e
              · exact e
              · have := (mk_1 _ hg2.1).2.2.1 e; omega
          unfold tkG at h42
          rw [if_pos hlt] at h42
          -- no token in front of the end is the end
          by_cases cL : isL (T (pos T n i)) = true
          · rw [if_pos cL] at h42
            unfold wdG at h42
            by_cases c1 : wEnd T n (pos T n i) - pos T n i ≤ 10
            · rw [if_pos c1] at h42
              cases h5 : fndN (mt T n (pos T n i) (wEnd T n (pos T n i) - pos T n i)) 45 0 with
              | some k =>
                rw [h5] at h42
                obtain ⟨-, k1, k2⟩ := fndN_s 45 0 k h5
                have := mt_len k2
                have h42 : k = 42 := h42
                subst h42
                have e1 : wEnd T n (pos T n i) - pos T n i = 0 := this.symm.trans rfl
                have hA : isA (T (pos T n i)) = true := by unfold isA; rw [cL]; rfl
                have e2 : wEnd T n (pos T n i) = stp isA T (n - (pos T n i + 1)) (pos T n i + 1) := stp_1 hlt hA
                have h6 := (stp_p (P := isA) (T := T) (n - (pos T n i + 1)) (pos T n i + 1)).1
                omega
              | none => rw [h5] at h42; exact absurd h42 (by decide)
            · rw [if_neg c1] at h42; omega
          · rw [if_neg cL] at h42
            by_cases cD : isD (T (pos T n i)) = true
            · rw [if_pos cD] at h42
              unfold nmG at h42
              by_cases c1 : nEnd T n (pos T n i) - pos T n i ≤ 6
              · rw [if_pos c1] at h42; omega
              · rw [if_neg c1] at h42; omega
            · rw [if_neg cD] at h42
              unfold symG at h42
              cases h5 : fndN (mt T n (pos T n i) 2) 45 0 with
              | some k => rw [h5] at h42; have := fnd_g (by omega) h5; have h42 : k = 42 := h42; omega
              | none =>
                rw [h5] at h42
                cases h6 : fndN (mt T n (pos T n i) 1) 45 0 with
                | some k => rw [h6] at h42; have := fnd_g (by omega) h6; have h42 : k = 42 := h42; omega
                | none => rw [h6] at h42; exact absurd h42 (by decide)
        rw [if_neg c, if_pos ⟨h400, this⟩]
        rfl
    obtain ⟨I3, hI3⟩ : ∃ I3, I3 = up2 I2 (m + 2) i (nI (mk (tok T n i))) := ⟨_, rfl⟩
    have fin : b_X14_cut_98 Z (gm M I3 R J) m (nI (pos T n i)) (nI i) = if tok T n i < 42 then some (.inl (gm M I3 R J, nI (bgn T n (i + 1)), nI (i + 1))) else some (.inr ((), gm M I3 R J)) := by
      have e3 : I3 (m + 2) (nI i).toNatClampNeg = nI (mk (tok T n i)) := by rw [nI_clamp (by omega), hI3, up2_eq]
      have hm := mk_1 (tok T n i) hg.1
      unfold b_X14_cut_98
      rw [ck_t (t0 _), gm_R, dr_s P.2.1.2.1, gm_T, ck_t (P.1.2.1 2 (by omega) (by omega)), gm_L, P.1.2.2.2 2 (by omega) (by omega), ck_t i1, gm_I, e3]
      by_cases c : tok T n i < 42
      · have q : nI (mk (tok T n i)) < (900 : Int32) := nI_lt (b := 900) (hm.1 c) (by omega)
        obtain ⟨v1, v2, v3⟩ := vI2 c
        have hE := tkE_le (T := T) b2
        have e4 : I3 (m + 4) (nI i).toNatClampNeg = nI (tkE T n (pos T n i) - pos T n i) := by rw [nI_clamp (by omega), hI3, up2_ne (by omega), v1]
        rw [if_pos q, if_pos c, dr_s P.2.1.2.2.2.1, ck_t (P.1.2.1 4 (by omega) (by omega)), P.1.2.2.2 4 (by omega) (by omega), ck_t i1, e4, nI_add, nI_1]
        have : pos T n i + (tkE T n (pos T n i) - pos T n i) = bgn T n (i + 1) := by show _ = tkE T n (pos T n i); omega
        rw [this]
      · have q : ¬ nI (mk (tok T n i)) < (900 : Int32) := by
          refine nI_nlt (b := 900) ?_ (by omega)
          rcases hg.2 (by omega) with e | e
          · rw [hm.2.1 e]
            exact Nat.le_refl _
          · rw [hm.2.2.1 e]
            decide
        rw [if_neg q, if_neg c]
        rfl
    refine ⟨I3, ⟨fun j hj => ?_, fun a ha => ?_⟩, ?_⟩
    · by_cases c : j = i
      · subst c
        refine ⟨by rw [hI3, up2_eq], by rw [hI3, up2_ne (by omega), gI2.1], by rw [hI3, up2_ne (by omega), gI2.2.1], by rw [hI3, up2_ne (by omega), gI2.2.2], fun h => by rw [hI3, up2_ne (by omega), (vI2 h).1]⟩
      · obtain ⟨u1, u2, u3, u4, u5⟩ := s1 j (by omega)
        refine ⟨?_, ?_, ?_, ?_, fun h => ?_⟩
        · rw [hI3, up2_ne (by omega), fI2 _ _ (.inr c), u1]
        · rw [hI3, up2_ne (by omega), fI2 _ _ (.inr c), u2]
        · rw [hI3, up2_ne (by omega), fI2 _ _ (.inr c), u3]
        · rw [hI3, up2_ne (by omega), fI2 _ _ (.inr c), u4]
        · rw [hI3, up2_ne (by omega), fI2 _ _ (.inr c), u5 h]
    · rw [← s2 a ha]
      funext k
      rw [hI3, up2_ne (by omega), fI2 _ _ (.inl (by omega))]
    · obtain ⟨⟨M1, k1⟩, ⟨q1, -⟩, e1⟩ := lp_ex (f := fun (q : gMem × Int32) => bb_X14_cut_11 Z q.1 m q.2 (nI i)) (fun j q => q = (gm M I1 R J, nI j) ∧ bgn T n i ≤ j) (pos T n i) (fun j q hj ⟨hq, hj1⟩ => by
        subst hq
        refine ⟨(gm M I1 R J, nI (j + 1)), ?_, rfl, by omega⟩
        have hb := h3 j hj1 hj
        have hx := hT j (by omega)
        have ex : tm T n j = nI (T j) := if_pos (by omega)
        obtain ⟨-, -, k32, k10, -⟩ := tm_1 (T j) hx
        show bb_X14_cut_11 Z (gm M I1 R J) m (nI j) (nI i) = _
        unfold bb_X14_cut_11 b_X14_cut_31
        rw [ck_t (t0 _), m_byteOf P1 (by omega), bd_S, ex]
        by_cases c : T j = 32
        · rw [if_pos (k32.mpr c), nI_1]
        · have c10 : T j = 10 := by
            unfold isB at hb
            simpa [c] using hb
          rw [if_neg (fun z => c (k32.mp z)), ck_t (t0 _), m_byteOf P1 (by omega), bd_S, ex, if_pos (k10.mpr c10), nI_1]) (pos T n i - bgn T n i) (bgn T n i) (gm M I1 R J, nI (bgn T n i)) (by omega) ⟨rfl, Nat.le_refl _⟩
      cases q1
      unfold lp_X14_cut_11
      refine e1.trans ?_
      have nb : ¬ tm T n (pos T n i) = (32 : Int32) ∧ ¬ tm T n (pos T n i) = (10 : Int32) := by
        unfold tm
        by_cases c : pos T n i < n
        · have hx := hT _ c
          obtain ⟨-, -, k32, k10, -⟩ := tm_1 _ hx
          have hb : isB (T (pos T n i)) = false := by
            rcases h4 with h | h
            · omega
            · exact h
          unfold isB at hb
          simp only [Bool.or_eq_false_iff, decide_eq_false_iff_not] at hb
          rw [if_pos c]
          exact ⟨fun z => hb.1 (k32.mp z), fun z => hb.2 (k10.mp z)⟩
        · rw [if_neg c]
          decide
      have w : ∀ I' (a : Nat) (x : Int32), wI (gm M I' R J) a (nI i).toNatClampNeg x = gm M (up2 I' a i x) R J := fun I' a x => by rw [nI_clamp (by omega)]; rfl
      refine lp_oI ?_ |>.trans fin
      show bb_X14_cut_11 Z (gm M I1 R J) m (nI (pos T n i)) (nI i) = _
      unfold bb_X14_cut_11
      rw [ck_t (t0 _), m_byteOf P1 (by omega), bd_S, if_neg nb.1, ck_t (t0 _), m_byteOf P1 (by omega), bd_S, if_neg nb.2, ck_t (t0 _), gm_R, dr_s P.2.1.2.2.1, gm_T, ck_t (P.1.2.1 3 (by omega) (by omega)), gm_L, P.1.2.2.2 3 (by omega) (by omega), ck_t i1, w]
      simp only [lw_S]
      rw [gm_R, dr_s P.2.1.2.2.2.2.1, gm_T, ck_t (P.1.2.1 5 (by omega) (by omega)), gm_L, P.1.2.2.2 5 (by omega) (by omega), ck_t i1, w, gm_R, dr_s P.2.1.2.2.2.2.2, gm_T, ck_t (P.1.2.1 6 (by omega) (by omega)), gm_L, P.1.2.2.2 6 (by omega) (by omega), ck_t i1, w, hk, bd_S, gm_R, dr_s P.2.1.2.1, gm_T, ck_t (P.1.2.1 2 (by omega) (by omega)), gm_L, P.1.2.2.2 2 (by omega) (by omega), ck_t i1, w]
      by_cases c4 : i = 400
      · have q4 : nI i = (400 : Int32) := by rw [c4]; rfl
        rw [if_pos q4, gm_T, ck_t P.1.1, gm_R, dr_s P.2.1.2.1, ck_t (P.1.2.1 2 (by omega) (by omega)), gm_L, P.1.2.2.2 2 (by omega) (by omega), ck_t i1, gm_I]
        have er : up2 I2 (m + 2) i (nI (mk (tkG T n (pos T n i)))) (m + 2) (nI i).toNatClampNeg = nI (mk (tkG T n (pos T n i))) := by rw [nI_clamp (by omega), up2_eq]
        rw [er]
        by_cases c9 : mk (tkG T n (pos T n i)) = 900
        · have q9 : nI (mk (tkG T n (pos T n i))) = (900 : Int32) := by rw [c9]; rfl
          have := hkind _ rfl
          rw [if_neg (fun z => z.2 c9)] at this
          rw [if_pos q9, hI3, this]
        · have hg2 := tkG_lt (T := T) (n := n) (a := pos T n i) b2
          have q9 : ¬ nI (mk (tkG T n (pos T n i))) = (900 : Int32) := nI_ne (b := 900) c9 (by have := (mk_1 _ hg2.1).2.2.2; omega) (by omega)
          have := hkind _ rfl
          rw [if_pos ⟨c4, c9⟩] at this
          rw [if_neg q9, ck_t i1, w, up2_up2s, hI3, ← this]
          rfl
      · have q4 : ¬ nI i = (400 : Int32) := nI_ne (b := 400) c4 (by omega) (by omega)
        have := hkind _ rfl
        rw [if_neg (fun z => c4 z.1)] at this
        rw [if_neg q4, hI3, this]
  -- all tokens
  have key : ∀ d i I1, i + d = K → mcutted T n m i I I1 → ∃ I', lp_X14_cut_4 Z (gm M I1 R J) m (nI (bgn T n i)) (nI i) = some ((), gm M I' R J) ∧ mcutted T n m (K + 1) I I' := by
    intro d
    induction d with
    | zero =>
      intro i I1 hi hS
      have : i = K := by omega
      subst this
      obtain ⟨I3, g1, g2⟩ := step i I1 (Nat.le_refl _) hS
      have q : ¬ (400 : Int32) < nI i := nI_nlt (a := 400) (by omega) (by omega)
      refine ⟨I3, ?_, g1⟩
      rw [if_neg (by omega)] at g2
      unfold lp_X14_cut_4
      refine lp_out ?_
      show bb_X14_cut_4 Z (gm M I1 R J) m (nI (bgn T n i)) (nI i) = _
      unfold bb_X14_cut_4
      rw [if_neg q, g2]
    | succ d ih =>
      intro i I1 hi hS
      obtain ⟨I3, g1, g2⟩ := step i I1 (by omega) hS
      have q : ¬ (400 : Int32) < nI i := nI_nlt (a := 400) (by omega) (by omega)
      rw [if_pos (hlt i (by omega))] at g2
      obtain ⟨I', g3, g4⟩ := ih (i + 1) I3 (by omega) g1
      refine ⟨I', ?_, g4⟩
      rw [← g3]
      unfold lp_X14_cut_4
      refine lp_in ?_
      show bb_X14_cut_4 Z (gm M I1 R J) m (nI (bgn T n i)) (nI i) = _
      unfold bb_X14_cut_4
      rw [if_neg q, g2]
  exact key K 0 I (by omega) ⟨fun i hi => absurd hi (Nat.not_lt_zero i), fun _ _ => rfl⟩
/-! names and numbers -/
theorem wv_inj {T : Nat → Nat} {a b : Nat} : ∀ l k, (∀ j, j < l → isA (T (a + j)) = true) → (∀ j, j < k → isA (T (b + j)) = true) → (wv T a l = wv T b k ↔ l = k ∧ ∀ j, j < l → T (a + j) = T (b + j))
  | 0, 0, _, _ => ⟨fun _ => ⟨rfl, fun j hj => absurd hj (Nat.not_lt_zero j)⟩, fun _ => rfl⟩
  | 0, k + 1, _, h => by
    constructor
    · intro e
      have := h k (by omega)
      have hd : 1 ≤ dg (T (b + k)) := by unfold dg; split <;> omega
      rw [wv, wv] at e
      omega
    · rintro ⟨e, -⟩; omega
  | l + 1, 0, h, _ => by
    constructor
    · intro e
      have hd : 1 ≤ dg (T (a + l)) := by unfold dg; split <;> omega
      rw [wv, wv] at e
      omega
    · rintro ⟨e, -⟩; omega
  | l + 1, k + 1, h1, h2 => by
    have ih := wv_inj (T := T) (a := a) (b := b) l k (fun j hj => h1 j (by omega)) (fun j hj => h2 j (by omega))
    have d1 := h1 l (by omega)
    have d2 := h2 k (by omega)
    have dgr : ∀ x, isA x = true → 1 ≤ dg x ∧ dg x ≤ 36 := by
      intro x hx
      unfold isA isL isD at hx
      simp only [Bool.or_eq_true, Bool.and_eq_true, decide_eq_true_eq] at hx
      unfold dg
      split <;> omega
    have dgi : ∀ x y, isA x = true → isA y = true → dg x = dg y → x = y := by
      intro x y hx hy e
      unfold isA isL isD at hx hy
      simp only [Bool.or_eq_true, Bool.and_eq_true, decide_eq_true_eq] at hx hy
      unfold dg at e
      split at e <;> split at e <;> omega
    obtain ⟨r1, r2⟩ := dgr _ d1
    obtain ⟨r3, r4⟩ := dgr _ d2
    rw [wv, wv]
    constructor
    · intro e
      have e1 : dg (T (a + l)) = dg (T (b + k)) := by omega
      have e2 : wv T a l = wv T b k := by omega
      obtain ⟨f1, f2⟩ := ih.mp e2
      subst f1
      refine ⟨rfl, fun j hj => ?_⟩
      by_cases c : j = l
      · subst c; exact dgi _ _ d1 d2 e1
      · exact f2 j (by omega)
    · rintro ⟨e, f⟩
      have e : l = k := by omega
      subst e
      rw [ih.mpr ⟨rfl, fun j hj => f j (by omega)⟩, f l (by omega)]
theorem wv_lt {T : Nat → Nat} {a : Nat} : ∀ l, (∀ j, j < l → isA (T (a + j)) = true) → wv T a l < 37 ^ l
  | 0, _ => by show 0 < 37 ^ 0; decide
  | l + 1, h => by
    have ih := wv_lt (T := T) (a := a) l (fun j hj => h j (by omega))
    have d1 := h l (by omega)
    have : dg (T (a + l)) ≤ 36 := by
      unfold isA isL isD at d1
      simp only [Bool.or_eq_true, Bool.and_eq_true, decide_eq_true_eq] at d1
      unfold dg
      split <;> omega
    rw [wv, Nat.pow_succ]
    omega
