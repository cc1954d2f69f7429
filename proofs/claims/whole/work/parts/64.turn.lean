/-! ## Pure: a fisher's turn in the reference -/
/-- the rest that a State has of a Shore -/
def RR (A st : Nat → Nat → Int32) (F G np : Nat) : Prop :=
  st 0 1 = A 0 1 ∧ (∀ i, 5 * G ≤ i → i < 40 → st 1 i = 0) ∧ (∀ g f, g < G → f < F → st 3 (8 * g + f) = A (35 + 2 * f) g) ∧
  (∀ f, f < F → st 7 f = A (34 + 2 * f) 6 ∧ st 8 f = A (34 + 2 * f) 7) ∧ (∀ f, F ≤ f → f < 8 → st 5 f = 0 ∧ st 9 f = 0) ∧
  ∀ p, p < np → st 10 p = A (74 + 2 * p) 5 ∧ st 11 p = A (74 + 2 * p) 6 ∧ st 12 p = A (74 + 2 * p) 7
def RS (A st : Nat → Nat → Int32) (F G np : Nat) : Prop := RE A st F G ∧ RR A st F G np
/-- what the code between two places of the reference has to do with the signs between two places of the class -/
def SR (pg : Nat → Nat) (len : Nat) (A : Nat → Nat → Int32) (code : Nat → Int32) (F G : Nat) (x y u v : Int32) : Prop :=
  ∃ s n c, x = nI s ∧ y = nI (s + n) ∧ s + n ≤ len ∧ u = nI c ∧ v = nI (c + wds pg s n) ∧ c + wds pg s n ≤ 800 ∧ CD pg (A 7) code F G s n c ∧ hgt pg s n = 1
/-- what was told to the reference has been told to the class -/
def TR (pg : Nat → Nat) (len : Nat) (A : Nat → Nat → Int32) (M : gMem) (t F G np ng : Nat) : Prop :=
  (mI M t 0 = nI G ∧ mI M t 4 = nI F ∧ mI M t 8 = nI ng ∧ mI M t 11 = nI np) ∧
  (∀ g, g < G → mI M (t + 1) g = A (18 + 2 * g) 0) ∧
  (∀ f, f < F → mI M (t + 3) f = A (34 + 2 * f) 0 ∧ mI M (t + 4) f = A (34 + 2 * f) 2 ∧ mI M (t + 5) f = A (34 + 2 * f) 3) ∧
  (∀ i, i < ng → mI M (t + 6) i = A (50 + i) 0 ∧ mI M (t + 7) i = A (50 + i) 1 ∧ ((A (50 + i) 2 = A (50 + i) 3 ∧ mI M (t + 12) i ≤ mI M (t + 11) i) ∨ (A (50 + i) 2 ≠ A (50 + i) 3 ∧ SR pg len A (fun k => mI M (t + 15) k) F G (A (50 + i) 2) (A (50 + i) 3) (mI M (t + 11) i) (mI M (t + 12) i)))) ∧
  ∀ p, p < np → mI M (t + 8) p = A (74 + 2 * p) 0 ∧ mI M (t + 9) p = A (74 + 2 * p) 3 ∧ (∀ n k, n ≤ 8 → A (74 + 2 * p) 3 = nI n → k < n → mI M (t + 10) (8 * p + k) = A (75 + 2 * p) k) ∧ (A (74 + 2 * p) 0 = -1 ∨ ((∃ g, g < G ∧ A (74 + 2 * p) 0 = nI g) ∧ SR pg len A (fun k => mI M (t + 15) k) F G (A (74 + 2 * p) 1) (A (74 + 2 * p) 2) (mI M (t + 13) p) (mI M (t + 14) p)))
theorem SR_c {pg : Nat → Nat} {len : Nat} {A A' : Nat → Nat → Int32} {code : Nat → Int32} {F G : Nat} {x y u v : Int32} (h : A' 7 = A 7) (S : SR pg len A code F G x y u v) : SR pg len A' code F G x y u v := by
  unfold SR at *
  rw [h]
  exact S
theorem TR_T {pg : Nat → Nat} {len : Nat} {A A' : Nat → Nat → Int32} {M : gMem} {t F G np ng : Nat} (hG : G ≤ 8) (hF : F ≤ 8) (hnp : np ≤ 6) (hng : ng ≤ 24) (h : eqT A A') (T : TR pg len A M t F G np ng) : TR pg len A' M t F G np ng := by
  obtain ⟨a1, a2, a3, a4, a5⟩ := T
  have h7 : A' 7 = A 7 := funext fun k => h 7 k (by unfold told; omega)
  have hg : ∀ i k, i < ng → A' (50 + i) k = A (50 + i) k := fun i k hi => h _ _ (by unfold told; omega)
  have hp : ∀ p k, p < np → k ≤ 4 → A' (74 + 2 * p) k = A (74 + 2 * p) k := fun p k hp hk => h _ _ (by unfold told; omega)
  have hm : ∀ p k, p < np → A' (75 + 2 * p) k = A (75 + 2 * p) k := fun p k hp => h _ _ (by unfold told; omega)
  refine ⟨a1, fun g q => ?_, fun f q => ?_, fun i q => ?_, fun p q => ?_⟩
  · rw [h (18 + 2 * g) 0 (by unfold told; omega)]; exact a2 g q
  · rw [h (34 + 2 * f) 0 (by unfold told; omega), h (34 + 2 * f) 2 (by unfold told; omega), h (34 + 2 * f) 3 (by unfold told; omega)]; exact a3 f q
  · rw [hg i 0 q, hg i 1 q, hg i 2 q, hg i 3 q]
    obtain ⟨b1, b2, b3⟩ := a4 i q
    exact ⟨b1, b2, b3.imp id fun z => ⟨z.1, SR_c h7 z.2⟩⟩
  · rw [hp p 0 q (by omega), hp p 1 q (by omega), hp p 2 q (by omega), hp p 3 q (by omega)]
    obtain ⟨b1, b2, b3, b4⟩ := a5 p q
    exact ⟨b1, b2, fun n k n8 e hk => by rw [hm p k q]; exact b3 n k n8 e hk, b4.imp id fun z => ⟨z.1, SR_c h7 z.2⟩⟩
theorem r_rk {m t a F G len : Nat} {A st : Nat → Nat → Int32} {M : gMem} {pg : Nat → Nat} {x y u v : Int32} (L : LSt m t a M) (R : RE A st F G) (hF : F ≤ 8) (hG : G ≤ 8) (hlen : len ≤ 400) (S : SR pg len A (fun k => mI M (t + 15) k) F G x y u v) : ¬ v ≤ u ∧ ∃ st', (∀ d, d ≠ 16 → st' d = st d) ∧ f_X12_carryOut (bC 17 a st M) a u v = some (rk pg A x.toNatClampNeg y.toNatClampNeg len, bC 17 a st' M) := by
  obtain ⟨s, n, c, rfl, rfl, h1, rfl, rfl, h2, h3, h4⟩ := S
  have hn : 1 ≤ n := by
    rcases n with _ | n
    · exact absurd h4 (show ¬ ((0 : Nat) = 1) by decide)
    · omega
  have hw := wds_le (pg := pg) (s := s) n 0
  rw [Nat.zero_add] at hw
  refine ⟨fun q => by have := (nI_leI (by omega) (by omega)).mp q; omega, ?_⟩
  obtain ⟨st', k1, k2⟩ := r_carryOut L R hF hG h3 (by omega) h2 h4
  refine ⟨st', k1, ?_⟩
  rw [k2]
  unfold rk
  rw [nI_clamp (by omega), nI_clamp (by omega), Nat.min_eq_left h1, Nat.add_sub_cancel_left]
theorem hasN_s {f : Nat → Int32} {n : Nat} {x : Int32} : hasN f (n + 1) x ↔ hasN f n x ∨ f n = x := by
  constructor
  · rintro ⟨i, h1, h2⟩
    by_cases c : i = n
    · subst c; exact .inr h2
    · exact .inl ⟨i, by omega, h2⟩
  · rintro (⟨i, h1, h2⟩ | h)
    · exact ⟨i, by omega, h2⟩
    · exact ⟨n, by omega, h⟩
theorem or_cif {p q : Prop} : (cif p 1 0 : Int32) ||| (cif q 1 0 : Int32) = cif (p ∨ q) 1 0 := by
  by_cases hp : p
  · rw [cif_t hp, cif_t (show p ∨ q from .inl hp)]
    by_cases hq : q
    · rw [cif_t hq]; decide
    · rw [cif_f hq]; decide
  · rw [cif_f hp]
    by_cases hq : q
    · rw [cif_t hq, cif_t (show p ∨ q from .inr hq)]; decide
    · rw [cif_f hq, cif_f (show ¬ (p ∨ q) from fun z => z.elim hp hq)]; decide
theorem r_spStep {m t a F G len np ng p f g : Nat} {A st : Nat → Nat → Int32} {M : gMem} {pg : Nat → Nat} (L : LSt m t a M) (T : TR pg len A M t F G np ng) (W : WS A F G np ng) (R : RE A st F G) (hlen : len ≤ 400) (hp : p < np) (hf : f < F) (hg : g < G) : ∃ st', (∀ d, d ≠ 16 → st' d = st d) ∧ (spares pg len A (nI g) (nI f) p → lp_X12_isSpared_22 (bC 17 a st M) a (nI f) (nI g) (nI p) 0 (nI 0) = some (.inr (1, bC 17 a st' M))) ∧ (¬ spares pg len A (nI g) (nI f) p → lp_X12_isSpared_22 (bC 17 a st M) a (nI f) (nI g) (nI p) 0 (nI 0) = some (.inl (bC 17 a st' M, nI (p + 1)))) := by
  have hG : G ≤ 8 := W.2.1
  have hF : F ≤ 8 := W.2.2.2.1
  have hnp : np ≤ 6 := W.2.2.2.2.1.2.1
  obtain ⟨n, n1, n2, n3, n4⟩ := W.2.2.2.2.2.2.2 p hp
  obtain ⟨b1, b2, b3, b4⟩ := T.2.2.2.2 p hp
  have i1 : inb (nI p) 6 := (inbN (by omega)).mpr (by omega)
  have step : ∀ k, k < n → bb_X12_isSpared_22 (bC 17 a st M) a (nI f) (nI g) (nI p) (cif (hasN (A (75 + 2 * p)) k (nI f)) 1 0) (nI k) = some (.inl (bC 17 a st M, cif (hasN (A (75 + 2 * p)) (k + 1) (nI f)) 1 0, nI (k + 1))) := by
    intro k hk
    have q1 : ¬ nI n ≤ nI k := fun q => by have := (nI_leI (by omega) (by omega)).mp q; omega
    have i2 : inb (nI (8 * p + k)) 48 := (inbN (by omega)).mpr (by omega)
    unfold bb_X12_isSpared_22 b_X12_isSpared_68
    rw [ck_t (q_T L), dr_s (q_R18 L), ck_t (q_Tm L), dr_s (q_Rm L), ck_t (q_Tt L), dr_s (q_r13 L), ck_t (q_t9 L), q_l9 L, ck_t i1, q_Ic L (by omega) (by omega), b2, n3, if_neg q1, dr_s (q_r14 L), ck_t (q_t10 L), q_l10 L, m8, nI_add, ck_t i2, q_Ic L (by omega) (by omega), b3 n k (by omega) n3 hk, nI_1]
    have e : ∀ x : Int32, x = cif (A (75 + 2 * p) k = nI f) 1 0 → (cif (hasN (A (75 + 2 * p)) k (nI f)) 1 0 : Int32) ||| x = cif (hasN (A (75 + 2 * p)) (k + 1) (nI f)) 1 0 := by
      intro x hx
      rw [hx, or_cif]
      congr 1
      exact propext hasN_s.symm
    by_cases c : A (75 + 2 * p) k = nI f
    · rw [if_pos c, e 1 (cif_t c).symm]
    · rw [if_neg c, e 0 (cif_f c).symm]
  have key : ∀ b, bb_X12_isSpared_22 (bC 17 a st M) a (nI f) (nI g) (nI p) (cif (hasN (A (75 + 2 * p)) n (nI f)) 1 0) (nI n) = some (.inr b) → lp_X12_isSpared_22 (bC 17 a st M) a (nI f) (nI g) (nI p) 0 (nI 0) = some b := by
    intro b hb
    have e0 : (cif (hasN (A (75 + 2 * p)) 0 (nI f)) 1 0 : Int32) = 0 := cif_f (fun ⟨i, h, _⟩ => absurd h (Nat.not_lt_zero i))
    have := lp_seq (f := fun (q : gMem × Int32 × Int32) => bb_X12_isSpared_22 q.1 a (nI f) (nI g) (nI p) q.2.1 q.2.2) (fun k => (bC 17 a st M, cif (hasN (A (75 + 2 * p)) k (nI f)) 1 0, nI k)) 0 n (Nat.zero_le _) (fun k _ hk => step k hk) hb
    rw [e0] at this
    exact this
  have q1 : nI n ≤ nI n := nI_le (Nat.le_refl _) (by omega)
  have hsp : spares pg len A (nI g) (nI f) p ↔ (A (74 + 2 * p) 0 = nI g ∧ hasN (A (75 + 2 * p)) n (nI f) ∧ ¬ rk pg A (A (74 + 2 * p) 1).toNatClampNeg (A (74 + 2 * p) 2).toNatClampNeg len ≤ sum5 (A (19 + 2 * g)) 5) := by
    unfold spares
    rw [n3, nI_clamp (n := n) (by omega), nI_clamp (n := g) (by omega)]
  rw [hsp]
  have n10 : ¬ (1 : Int32) = 0 := by decide
  by_cases c1 : hasN (A (75 + 2 * p)) n (nI f)
  · by_cases c2 : A (74 + 2 * p) 0 = nI g
    · have hS : SR pg len A (fun k => mI M (t + 15) k) F G (A (74 + 2 * p) 1) (A (74 + 2 * p) 2) (mI M (t + 13) p) (mI M (t + 14) p) := by
        rcases b4 with h | h
        · exact absurd (c2.symm.trans h) (nI_nm1 (by omega))
        · exact h.2
      obtain ⟨-, st', k1, k2⟩ := r_rk L R hF hG hlen hS
      have ef : sumN (fun k => st 1 (5 * g + k)) 5 = sum5 (A (19 + 2 * g)) 5 := (sum5_N 5 (fun k hk => (R.2.1 g k hg hk).symm)).symm
      have main : bb_X12_isSpared_22 (bC 17 a st M) a (nI f) (nI g) (nI p) (cif (hasN (A (75 + 2 * p)) n (nI f)) 1 0) (nI n) = if rk pg A (A (74 + 2 * p) 1).toNatClampNeg (A (74 + 2 * p) 2).toNatClampNeg len ≤ sum5 (A (19 + 2 * g)) 5 then some (.inr (.inl (bC 17 a st' M, nI (p + 1)))) else some (.inr (.inr (1, bC 17 a st' M))) := by
        unfold bb_X12_isSpared_22 b_X12_isSpared_136
        rw [ck_t (q_T L), dr_s (q_R18 L), ck_t (q_Tm L), dr_s (q_Rm L), ck_t (q_Tt L), dr_s (q_r13 L), ck_t (q_t9 L), q_l9 L, ck_t i1, q_Ic L (by omega) (by omega), b2, n3, if_pos q1, cif_t c1, if_neg n10, dr_s (q_r12 L), ck_t (q_t8 L), q_l8 L, ck_t i1, q_Ic L (by omega) (by omega), b1, if_pos c2, r_fishAt L (by omega), bd_S, ck_t (q_T L), dr_s (q_R18 L), ck_t (q_Tm L), dr_s (q_Rm L), ck_t (q_Tt L), dr_s (q_r19 L), ck_t (q_t13 L), q_l13 L, ck_t ((inbN (by omega)).mpr (by omega)), dr_s (q_r20 L), ck_t (q_t14 L), q_l14 L, ck_t ((inbN (by omega)).mpr (by omega)), q_Ic L (by omega) (by omega), q_Ic L (by omega) (by omega), k2, bd_S, ef, nI_1]
        rfl
      by_cases c3 : rk pg A (A (74 + 2 * p) 1).toNatClampNeg (A (74 + 2 * p) 2).toNatClampNeg len ≤ sum5 (A (19 + 2 * g)) 5
      · rw [if_pos c3] at main
        exact ⟨st', k1, fun z => absurd c3 z.2.2, fun _ => key _ main⟩
      · rw [if_neg c3] at main
        exact ⟨st', k1, fun _ => key _ main, fun z => absurd ⟨c2, c1, c3⟩ z⟩
    · refine ⟨st, fun _ _ => rfl, fun z => absurd z.1 c2, fun _ => key _ ?_⟩
      unfold bb_X12_isSpared_22 b_X12_isSpared_136
      rw [ck_t (q_T L), dr_s (q_R18 L), ck_t (q_Tm L), dr_s (q_Rm L), ck_t (q_Tt L), dr_s (q_r13 L), ck_t (q_t9 L), q_l9 L, ck_t i1, q_Ic L (by omega) (by omega), b2, n3, if_pos q1, cif_t c1, if_neg n10, dr_s (q_r12 L), ck_t (q_t8 L), q_l8 L, ck_t i1, q_Ic L (by omega) (by omega), b1, if_neg c2, nI_1]
      rfl
  · refine ⟨st, fun _ _ => rfl, fun z => absurd z.2.1 c1, fun _ => key _ ?_⟩
    unfold bb_X12_isSpared_22 b_X12_isSpared_136
    rw [ck_t (q_T L), dr_s (q_R18 L), ck_t (q_Tm L), dr_s (q_Rm L), ck_t (q_Tt L), dr_s (q_r13 L), ck_t (q_t9 L), q_l9 L, ck_t i1, q_Ic L (by omega) (by omega), b2, n3, if_pos q1, cif_f c1, if_pos rfl, nI_1]
    rfl
theorem r_spLoop {m t a F G len np ng f g : Nat} {A : Nat → Nat → Int32} {M : gMem} {pg : Nat → Nat} (L : LSt m t a M) (T : TR pg len A M t F G np ng) (W : WS A F G np ng) (hlen : len ≤ 400) (hf : f < F) (hg : g < G) : ∀ (d p : Nat) (st : Nat → Nat → Int32), RE A st F G → p + d = np → ∃ st', (∀ d, d ≠ 16 → st' d = st d) ∧ lp_X12_isSpared_2 (bC 17 a st M) a (nI f) (nI g) (nI p) = some (cif (∃ q, p ≤ q ∧ q < np ∧ spares pg len A (nI g) (nI f) q) 1 0, bC 17 a st' M)
  | 0, p, st, R, hd => by
    have hnp : np ≤ 6 := W.2.2.2.2.1.2.1
    refine ⟨st, fun _ _ => rfl, ?_⟩
    have q : nI np ≤ nI p := nI_le (by omega) (by omega)
    unfold lp_X12_isSpared_2
    refine lp_out ?_
    show bb_X12_isSpared_2 (bC 17 a st M) a (nI f) (nI g) (nI p) = _
    unfold bb_X12_isSpared_2
    rw [ck_t (q_T L), dr_s (q_R18 L), ck_t (q_Tm L), dr_s (q_Rm L), ck_t (q_Tt L), q_I L, T.1.2.2.2, if_pos q, cif_f (fun ⟨q, h1, h2, _⟩ => by omega)]
    rfl
  | d + 1, p, st, R, hd => by
    have hnp : np ≤ 6 := W.2.2.2.2.1.2.1
    obtain ⟨st1, k1, s1, s2⟩ := r_spStep (p := p) (f := f) (g := g) L T W R hlen (by omega) hf hg
    have q : ¬ nI np ≤ nI p := fun q => by have := (nI_leI (by omega) (by omega)).mp q; omega
    have eb : bb_X12_isSpared_2 (bC 17 a st M) a (nI f) (nI g) (nI p) = lp_X12_isSpared_22 (bC 17 a st M) a (nI f) (nI g) (nI p) 0 (nI 0) := by
      unfold bb_X12_isSpared_2
      rw [ck_t (q_T L), dr_s (q_R18 L), ck_t (q_Tm L), dr_s (q_Rm L), ck_t (q_Tt L), q_I L, T.1.2.2.2, if_neg q]
      rfl
    by_cases c : spares pg len A (nI g) (nI f) p
    · refine ⟨st1, k1, ?_⟩
      unfold lp_X12_isSpared_2
      rw [cif_t ⟨p, Nat.le_refl _, by omega, c⟩]
      exact lp_out (eb.trans (s1 c))
    · obtain ⟨st2, k2, e2⟩ := r_spLoop L T W hlen hf hg d (p + 1) st1 (RE_c R k1) (by omega)
      refine ⟨st2, fun d hd => (k2 d hd).trans (k1 d hd), ?_⟩
      have hx : (∃ q, p ≤ q ∧ q < np ∧ spares pg len A (nI g) (nI f) q) = ∃ q, p + 1 ≤ q ∧ q < np ∧ spares pg len A (nI g) (nI f) q := by
        apply propext
        constructor
        · rintro ⟨q, a, b, z⟩
          refine ⟨q, ?_, b, z⟩
          rcases Nat.lt_or_ge p q with w | w
          · omega
          · exact absurd (by rw [show p = q by omega]; exact z) c
        · rintro ⟨q, a, b, z⟩
          exact ⟨q, by omega, b, z⟩
      rw [hx, ← e2]
      unfold lp_X12_isSpared_2
      exact lp_in (eb.trans (s2 c))
theorem r_isSpared {m t a F G len np ng f g : Nat} {A st : Nat → Nat → Int32} {M : gMem} {pg : Nat → Nat} (L : LSt m t a M) (T : TR pg len A M t F G np ng) (W : WS A F G np ng) (R : RE A st F G) (hlen : len ≤ 400) (hf : f < F) (hg : g < G) : ∃ st', (∀ d, d ≠ 16 → st' d = st d) ∧ f_X12_isSpared (bC 17 a st M) a (nI f) (nI g) = some (cif (∃ q, q < np ∧ spares pg len A (nI g) (nI f) q) 1 0, bC 17 a st' M) := by
  obtain ⟨st', k1, k2⟩ := r_spLoop L T W hlen hf hg np 0 st R (by omega)
  refine ⟨st', k1, ?_⟩
  have hx : (∃ q, 0 ≤ q ∧ q < np ∧ spares pg len A (nI g) (nI f) q) = ∃ q, q < np ∧ spares pg len A (nI g) (nI f) q := by
    apply propext
    constructor
    · rintro ⟨q, _, b, z⟩; exact ⟨q, b, z⟩
    · rintro ⟨q, b, z⟩; exact ⟨q, Nat.zero_le _, b, z⟩
  rw [hx] at k2
  exact k2
theorem cif_if {α : Type} {p : Prop} [d : Decidable p] {x y : α} : cif p x y = if p then x else y := by
  by_cases h : p
  · rw [cif_t h, if_pos h]
  · rw [cif_f h, if_neg h]
theorem r_can96 {m t a F G len np ng f g : Nat} {A st : Nat → Nat → Int32} {M : gMem} {pg : Nat → Nat} (L : LSt m t a M) (T : TR pg len A M t F G np ng) (W : WS A F G np ng) (R : RE A st F G) (hlen : len ≤ 400) (hf : f < F) (hg : g < G) : ∃ st', (∀ d, d ≠ 16 → st' d = st d) ∧ b_X12_canGo_96 (bC 17 a st M) a (nI f) (nI g) = some (cif (sparedP pg len np A g f) 0 1, bC 17 a st' M) := by
  have hF : F ≤ 8 := W.2.2.2.1
  have i1 : inb (nI f) 8 := (inbN (by omega)).mpr (by omega)
  obtain ⟨-, -, -, c4, c5⟩ := R.2.2.2 f hf
  have n01 : ¬ (0 : Int32) = 1 := by decide
  have n10 : ¬ (1 : Int32) = 0 := by decide
  unfold b_X12_canGo_96 b_X12_canGo_115 b_X12_canGo_120
  rw [ck_t (q_T L), dr_s (q_R10 L), ck_t (q_T9 L), q_L9 L, ck_t i1, bC_Ic (by omega) (by omega), c4]
  rcases c5 with h | h
  · obtain ⟨st', k1, k2⟩ := r_isSpared (f := f) (g := g) L T W R hlen hf hg
    refine ⟨st', k1, ?_⟩
    rw [h, if_neg n01, k2, bd_S]
    by_cases c : ∃ q, q < np ∧ spares pg len A (nI g) (nI f) q
    · rw [cif_t c, cif_t (show sparedP pg len np A g f from ⟨h, c⟩), if_neg n10, ck_t (.inl rfl)]
    · rw [cif_f c, cif_f (show ¬ sparedP pg len np A g f from fun z => c z.2), if_pos rfl, ck_t (.inr rfl)]
  · refine ⟨st, fun _ _ => rfl, ?_⟩
    have : ¬ sparedP pg len np A g f := fun z => n10 (h.symm.trans z.1)
    rw [h, if_pos rfl, ck_t (.inr rfl), cif_f this]
theorem r_canGo {m t a F G len np ng f i : Nat} {A st : Nat → Nat → Int32} {M : gMem} {pg : Nat → Nat} (L : LSt m t a M) (T : TR pg len A M t F G np ng) (W : WS A F G np ng) (R : RE A st F G) (hlen : len ≤ 400) (hf : f < F) (hi : i < ng) (ef : A (50 + i) 0 = nI f) : ∃ st', (∀ d, d ≠ 16 → st' d = st d) ∧ f_X12_canGo (bC 17 a st M) a (nI f) (nI i) = some (cif (goOK pg len np A f i) 1 0, bC 17 a st' M) := by
  have hG : G ≤ 8 := W.2.1
  have hF : F ≤ 8 := W.2.2.2.1
  have hng : ng ≤ 24 := W.2.2.2.2.2.1.2.1
  obtain ⟨-, g, hg, eg⟩ := W.2.2.2.2.2.2.1 i hi
  obtain ⟨b1, b2, b3⟩ := T.2.2.2.1 i hi
  have i1 : inb (nI i) 24 := (inbN (by omega)).mpr (by omega)
  have i2 : inb (nI g) 8 := (inbN (by omega)).mpr (by omega)
  have i3 : inb (nI i) 25 := (inbN (by omega)).mpr (by omega)
  have hgo : goOK pg len np A f i ↔ (A (18 + 2 * g) 1 < A (18 + 2 * g) 0 ∧ (A (50 + i) 2 = A (50 + i) 3 ∨ ¬ rk pg A (A (50 + i) 2).toNatClampNeg (A (50 + i) 3).toNatClampNeg len = 0) ∧ ¬ sparedP pg len np A g f) := by
    unfold goOK
    rw [eg, nI_clamp (n := g) (by omega)]
    exact ⟨fun z => z.2, fun z => ⟨ef, z⟩⟩
  rw [show goOK pg len np A f i = _ from propext hgo]
  have ecl : (nI g).toNatClampNeg = g := nI_clamp (by omega)
  have er : mI (bC 17 a st M) (a + 2) (nI g).toNatClampNeg = A (18 + 2 * g) 1 := by rw [ecl, bC_I (by omega), R.2.2.1 g hg]
  have em : mI (bC 17 a st M) (t + 1) (nI g).toNatClampNeg = A (18 + 2 * g) 0 := by rw [ecl, q_Ij L (by omega), T.2.1 g hg]
  unfold f_X12_canGo b_X12_canGo_0
  rw [ck_t (q_T L), dr_s (q_R18 L), ck_t (q_Tm L), dr_s (q_Rm L), ck_t (q_Tt L), dr_s (q_r10 L), ck_t (q_t7 L), q_l7 L, ck_t i1, q_Ic L (by omega) (by omega), b2, eg, dr_s (q_R3 L), ck_t (q_T2 L), q_L2 L, ck_t i2, dr_s (q_r1 L), ck_t (q_t1 L), q_l1 L, ck_t i2, er, em]
  by_cases c1 : A (18 + 2 * g) 1 < A (18 + 2 * g) 0
  · rw [if_pos c1, dr_s (q_r18 L), ck_t (q_t12 L), q_l12 L, ck_t i3, dr_s (q_r17 L), ck_t (q_t11 L), q_l11 L, ck_t i3, q_Ic L (by omega) (by omega), q_Ic L (by omega) (by omega)]
    rcases b3 with ⟨h1, h2⟩ | ⟨h1, h2⟩
    · obtain ⟨st', k1, k2⟩ := r_can96 (f := f) (g := g) L T W R hlen hf hg
      refine ⟨st', k1, ?_⟩
      rw [if_pos h2, k2]
      by_cases c3 : sparedP pg len np A g f
      · rw [cif_t c3, cif_f fun z => z.2.2 c3]
      · rw [cif_f c3, cif_t ⟨c1, .inl h1, c3⟩]
    · obtain ⟨n1, st1, k1, k2⟩ := r_rk L R hF hG hlen h2
      rw [if_neg n1, ck_t i3, ck_t i3, k2, bd_S]
      by_cases c2 : rk pg A (A (50 + i) 2).toNatClampNeg (A (50 + i) 3).toNatClampNeg len = 0
      · rw [if_pos c2]
        refine ⟨st1, k1, ?_⟩
        rw [cif_f fun z => z.2.1.elim h1 fun w => w c2]
      · obtain ⟨st', k3, k4⟩ := r_can96 (f := f) (g := g) L T W (RE_c R k1) hlen hf hg
        refine ⟨st', fun d hd => (k3 d hd).trans (k1 d hd), ?_⟩
        rw [if_neg c2, k4]
        by_cases c3 : sparedP pg len np A g f
        · rw [cif_t c3, cif_f fun z => z.2.2 c3]
        · rw [cif_f c3, cif_t ⟨c1, .inr c2, c3⟩]
  · rw [if_neg c1]
    exact ⟨st, fun _ _ => rfl, by rw [cif_f fun z => c1 z.1]⟩
/-- the goes from i on: where f is to go -/
theorem RE_7 {A st : Nat → Nat → Int32} {F G k : Nat} {v : Int32} (R : RE A st F G) : RE A (up2 st 7 k v) F G := by
  have h : ∀ d, d ≠ 7 → up2 st 7 k v d = st d := fun d hd => funext fun j => up2_ne (.inl hd)
  unfold RE
  rw [h 0 (by omega), h 1 (by omega), h 2 (by omega), h 4 (by omega), h 5 (by omega), h 6 (by omega), h 9 (by omega)]
  exact R
theorem r_goes {m t a F G len np ng f : Nat} {A : Nat → Nat → Int32} {M : gMem} {pg : Nat → Nat} (L : LSt m t a M) (T : TR pg len A M t F G np ng) (W : WS A F G np ng) (hlen : len ≤ 400) (hf : f < F) : ∀ (d i : Nat) (st : Nat → Nat → Int32), RE A st F G → i + d = ng → st 7 f = -1 → ∃ st', (∀ d, d ≠ 16 → d ≠ 7 → st' d = st d) ∧ (∀ k, k ≠ f → st' 7 k = st 7 k) ∧ st' 7 f = fgo pg len np A f d i ∧ lp_X12_fisher_9 (bC 17 a st M) a (nI f) (nI i) = b_X12_fisher_82 (bC 17 a st' M) a (nI f)
  | 0, i, st, R, hd, h7 => by
    have hng : ng ≤ 24 := W.2.2.2.2.2.1.2.1
    refine ⟨st, fun _ _ _ => rfl, fun _ _ => rfl, h7, ?_⟩
    have q : nI ng ≤ nI i := nI_le (by omega) (by omega)
    have e : bb_X12_fisher_9 (bC 17 a st M) a (nI f) (nI i) = oI (b_X12_fisher_82 (bC 17 a st M) a (nI f)) := by
      unfold bb_X12_fisher_9
      rw [ck_t (q_T L), dr_s (q_R18 L), ck_t (q_Tm L), dr_s (q_Rm L), ck_t (q_Tt L), q_I L, T.1.2.2.1, if_pos q]
    conv => lhs; unfold lp_X12_fisher_9
    rw [lp_eq]
    simp only [e]
    cases b_X12_fisher_82 (bC 17 a st M) a (nI f) <;> rfl
  | d + 1, i, st, R, hd, h7 => by
    have hF : F ≤ 8 := W.2.2.2.1
    have hng : ng ≤ 24 := W.2.2.2.2.2.1.2.1
    have q : ¬ nI ng ≤ nI i := fun q => by have := (nI_leI (by omega) (by omega)).mp q; omega
    have i1 : inb (nI f) 8 := (inbN (by omega)).mpr (by omega)
    have i2 : inb (nI i) 24 := (inbN (by omega)).mpr (by omega)
    obtain ⟨b1, b2, -⟩ := T.2.2.2.1 i (by omega)
    obtain ⟨⟨f', hf', ef'⟩, g, hg, eg⟩ := W.2.2.2.2.2.2.1 i (by omega)
    have n10 : ¬ (1 : Int32) = 0 := by decide
    have next : ∀ st1, (∀ d, d ≠ 16 → st1 d = st d) → ¬ goOK pg len np A f i → bb_X12_fisher_9 (bC 17 a st M) a (nI f) (nI i) = some (.inl (bC 17 a st1 M, nI (i + 1))) → ∃ st', (∀ d, d ≠ 16 → d ≠ 7 → st' d = st d) ∧ (∀ k, k ≠ f → st' 7 k = st 7 k) ∧ st' 7 f = fgo pg len np A f (d + 1) i ∧ lp_X12_fisher_9 (bC 17 a st M) a (nI f) (nI i) = b_X12_fisher_82 (bC 17 a st' M) a (nI f) := by
      intro st1 k1 hn he
      obtain ⟨st', g1, g2, g3, g4⟩ := r_goes L T W hlen hf d (i + 1) st1 (RE_c R k1) (by omega) (by rw [k1 7 (by omega), h7])
      refine ⟨st', fun d h1 h2 => (g1 d h1 h2).trans (k1 d h1), fun k hk => by rw [g2 k hk, k1 7 (by omega)], ?_, ?_⟩
      · rw [g3, fgo, cif_f hn]
      · rw [← g4]
        unfold lp_X12_fisher_9
        exact lp_in he
    by_cases c : A (50 + i) 0 = nI f
    · obtain ⟨st1, k1, k2⟩ := r_canGo (f := f) L T W R hlen hf (by omega) c
      have st7 : st1 7 f = -1 := by rw [k1 7 (by omega), h7]
      by_cases c2 : goOK pg len np A f i
      · -- this one
        have q2 : ¬ nI g = -1 := nI_nm1 (by have := W.2.1; omega)
        have e : bb_X12_fisher_9 (bC 17 a st M) a (nI f) (nI i) = some (.inl (bC 17 a (up2 st1 7 f (nI g)) M, nI (i + 1))) := by
          unfold bb_X12_fisher_9 b_X12_fisher_76
          rw [ck_t (q_T L), dr_s (q_R18 L), ck_t (q_Tm L), dr_s (q_Rm L), ck_t (q_Tt L), q_I L, T.1.2.2.1, if_neg q, dr_s (q_R8 L), ck_t (q_T7 L), q_L7 L, ck_t i1, bC_Ic (by omega) (by omega), h7, if_pos rfl, dr_s (q_r9 L), ck_t (q_t6 L), q_l6 L, ck_t i2, q_Ic L (by omega) (by omega), b1, if_pos c, k2, bd_S, cif_t c2, if_neg n10, ck_t (q_T L), dr_s (q_R18 L), ck_t (q_Tm L), dr_s (q_Rm L), ck_t (q_Tt L), dr_s (q_r10 L), ck_t (q_t7 L), q_l7 L, ck_t i2, dr_s (q_R8 L), ck_t (q_T7 L), q_L7 L, ck_t i1, q_Ic L (by omega) (by omega), b2, eg, bC_Wc (by omega) (by omega), nI_1]
          rfl
        refine ⟨up2 st1 7 f (nI g), fun d h1 h2 => ?_, fun k hk => ?_, ?_, ?_⟩
        · funext k
          rw [up2_ne (.inl h2), k1 d h1]
        · rw [up2_ne (.inr hk), k1 7 (by omega)]
        · rw [up2_eq, fgo, cif_t c2, eg]
        · have e1 : lp_X12_fisher_9 (bC 17 a st M) a (nI f) (nI i) = lp_X12_fisher_9 (bC 17 a (up2 st1 7 f (nI g)) M) a (nI f) (nI (i + 1)) := by
            unfold lp_X12_fisher_9
            exact lp_in e
          have e2 : bb_X12_fisher_9 (bC 17 a (up2 st1 7 f (nI g)) M) a (nI f) (nI (i + 1)) = oI (b_X12_fisher_82 (bC 17 a (up2 st1 7 f (nI g)) M) a (nI f)) := by
            unfold bb_X12_fisher_9
            rw [ck_t (q_T L), dr_s (q_R18 L), ck_t (q_Tm L), dr_s (q_Rm L), ck_t (q_Tt L), q_I L, T.1.2.2.1]
            by_cases c3 : nI ng ≤ nI (i + 1)
            · rw [if_pos c3]
            · rw [if_neg c3, dr_s (q_R8 L), ck_t (q_T7 L), q_L7 L, ck_t i1, bC_Ic (by omega) (by omega), up2_eq, if_neg q2]
          rw [e1]
          conv => lhs; unfold lp_X12_fisher_9
          rw [lp_eq]
          simp only [e2]
          cases b_X12_fisher_82 (bC 17 a (up2 st1 7 f (nI g)) M) a (nI f) <;> rfl
      · refine next st1 k1 c2 ?_
        unfold bb_X12_fisher_9 b_X12_fisher_76
        rw [ck_t (q_T L), dr_s (q_R18 L), ck_t (q_Tm L), dr_s (q_Rm L), ck_t (q_Tt L), q_I L, T.1.2.2.1, if_neg q, dr_s (q_R8 L), ck_t (q_T7 L), q_L7 L, ck_t i1, bC_Ic (by omega) (by omega), h7, if_pos rfl, dr_s (q_r9 L), ck_t (q_t6 L), q_l6 L, ck_t i2, q_Ic L (by omega) (by omega), b1, if_pos c, k2, bd_S, cif_f c2, if_pos rfl, nI_1]
    · refine next st (fun _ _ => rfl) (fun z => c z.1) ?_
      unfold bb_X12_fisher_9 b_X12_fisher_76
      rw [ck_t (q_T L), dr_s (q_R18 L), ck_t (q_Tm L), dr_s (q_Rm L), ck_t (q_Tt L), q_I L, T.1.2.2.1, if_neg q, dr_s (q_R8 L), ck_t (q_T7 L), q_L7 L, ck_t i1, bC_Ic (by omega) (by omega), h7, if_pos rfl, dr_s (q_r9 L), ck_t (q_t6 L), q_l6 L, ck_t i2, q_Ic L (by omega) (by omega), b1, if_neg c, nI_1]
/-- what a sail writes -/
theorem sailA_k {A : Nat → Nat → Int32} {f g : Nat} (hf : f < 8) (hg : g < 8) : sailA A f g (18 + 2 * g) 1 = A (18 + 2 * g) 1 + nI 1 ∧ sailA A f g (34 + 2 * f) 5 = nI (wgN (hlA A g f).1 (sailA A f g (34 + 2 * f) 1).toNatClampNeg 5) ∧ sailA A f g (34 + 2 * f) 6 = nI g ∧ (sailA A f g (34 + 2 * f) 7 = if (hlA A g f).2.2.2 = 0 then A (34 + 2 * f) 7 else A (34 + 2 * f) 7 + nI 1) ∧ sailA A f g (35 + 2 * f) g = A (35 + 2 * f) g + nI (kpN (hlA A g f).1 (sailA A f g (34 + 2 * f) 1).toNatClampNeg 5) ∧ tornA A f g (34 + 2 * f) 1 = sailA A f g (34 + 2 * f) 1 := by
  have em : tornA A f g (34 + 2 * f) 1 = sailA A f g (34 + 2 * f) 1 := by
    unfold sailA ldA lhN
    rw [up2_ne (by omega), up2_ne (by omega), up2_ne (by omega), up1_o (by omega), up2_ne (by omega)]
  have t5 : tornA A f g (34 + 2 * f) 5 = 0 := by
    unfold tornA tearA thereA
    by_cases c : (hlA A g f).2.2.2 = 0
    · rw [if_pos c, up2_ne (by omega), up2_eq]
    · rw [if_neg c, up2_ne (by omega), up2_ne (by omega), up2_ne (by omega), up2_eq]
  rw [← em]
  refine ⟨?_, ?_, ?_, ?_, ?_, rfl⟩
  · unfold sailA ldA lhN
    rw [up2_ne (by omega), up2_ne (by omega), up2_ne (by omega), up1_o (by omega), up2_ne (by omega)]
    unfold tornA tearA thereA
    by_cases c : (hlA A g f).2.2.2 = 0
    · rw [if_pos c, up2_eq]
    · rw [if_neg c, up2_ne (by omega), up2_ne (by omega), up2_eq]
  · unfold sailA ldA lhN
    rw [up2_ne (by omega), up2_ne (by omega), up2_ne (by omega), up1_o (by omega), up2_eq, t5]
    exact Int32.zero_add _
  · unfold sailA ldA lhN
    rw [up2_ne (by omega), up2_ne (by omega), up2_ne (by omega), up1_o (by omega), up2_ne (by omega)]
    unfold tornA tearA thereA
    by_cases c : (hlA A g f).2.2.2 = 0
    · rw [if_pos c, up2_ne (by omega), up2_ne (by omega), up2_eq]
    · rw [if_neg c, up2_ne (by omega), up2_ne (by omega), up2_ne (by omega), up2_ne (by omega), up2_eq]
  · unfold sailA ldA lhN
    rw [up2_ne (by omega), up2_ne (by omega), up2_ne (by omega), up1_o (by omega), up2_ne (by omega)]
    unfold tornA
    by_cases c : (hlA A g f).2.2.2 = 0
    · rw [if_pos c, if_pos c, thereA_o (by omega) (by omega)]
    · rw [if_neg c, if_neg c]
      unfold tearA
      rw [up2_eq, thereA_o (by omega) (by omega)]
  · unfold sailA
    rw [up2_eq]
/-- a fisher's turn -/
theorem r_fisher {m t a F G len np ng f : Nat} {A st : Nat → Nat → Int32} {M : gMem} {pg : Nat → Nat} (L : LSt m t a M) (T : TR pg len A M t F G np ng) (W : WS A F G np ng) (D : WD A F G) (R : RS A st F G np) (hlen : len ≤ 400) (hf : f < F) : ∃ st', f_X12_fisher (bC 17 a st M) a (nI f) = some ((), bC 17 a st' M) ∧ RS (goA pg len np ng A f) st' F G np ∧ st' 13 = st 13 := by
  have hG : G ≤ 8 := W.2.1
  have hF : F ≤ 8 := W.2.2.2.1
  have i1 : inb (nI f) 8 := (inbN (by omega)).mpr (by omega)
  obtain ⟨R1, R2⟩ := R
  obtain ⟨st1, g1, g2, g3, g4⟩ := r_goes (f := f) L T W hlen hf ng 0 (up2 st 7 f (-1)) (RE_7 R1) (by omega) (up2_eq _ _ _ _)
  have e0 : f_X12_fisher (bC 17 a st M) a (nI f) = b_X12_fisher_82 (bC 17 a st1 M) a (nI f) := by
    rw [← g4]
    unfold f_X12_fisher b_X12_fisher_0
    rw [ck_t (q_T L), dr_s (q_R8 L), ck_t (q_T7 L), q_L7 L, ck_t i1, bC_Wc (by omega) (by omega)]
    rfl
  have s1o : ∀ d, d ≠ 16 → d ≠ 7 → st1 d = st d := fun d h1 h2 => by
    rw [g1 d h1 h2]; funext k; exact up2_ne (.inl h2)
  have s17 : ∀ k, k ≠ f → st1 7 k = st 7 k := fun k hk => by rw [g2 k hk, up2_ne (.inr hk)]
  obtain ⟨r0, rF, rB, rE⟩ := R1
  obtain ⟨l1, z1, tk, wt, zz, pp⟩ := R2
  rw [e0]
  unfold goA
  rcases fgo_v (pg := pg) (len := len) (f := f) W ng 0 (by omega) with h | ⟨g, hg, h⟩
  · -- at home
    rw [if_pos h]
    rw [h] at g3
    refine ⟨up2 st1 6 f 0, ?_, ⟨⟨?_, fun g k hg hk => ?_, fun g hg => ?_, fun f' hf' => ?_⟩, ⟨?_, fun i h1 h2 => ?_, fun g f' hg hf' => ?_, fun f' hf' => ?_, fun f' h1 h2 => ?_, fun p hp => ?_⟩⟩, ?_⟩
    · unfold b_X12_fisher_82
      rw [ck_t (q_T L), dr_s (q_R8 L), ck_t (q_T7 L), q_L7 L, ck_t i1, bC_Ic (by omega) (by omega), g3, if_pos rfl, dr_s (q_R7 L), ck_t (q_T6 L), q_L6 L, ck_t i1, bC_Wc (by omega) (by omega)]
      rfl
    · rw [up2_ne (by omega), s1o 0 (by omega) (by omega), homeA_o (by omega), r0]
    · rw [up2_ne (by omega), s1o 1 (by omega) (by omega), homeA_o (by omega), rF g k hg hk]
    · rw [up2_ne (by omega), s1o 2 (by omega) (by omega), homeA_o (by omega), rB g hg]
    · obtain ⟨c1, c2, c3, c4, c5⟩ := rE f' hf'
      rw [up2_ne (b := 4) (by omega), s1o 4 (by omega) (by omega), up2_ne (b := 5) (by omega), s1o 5 (by omega) (by omega), up2_ne (b := 9) (by omega), s1o 9 (by omega) (by omega), homeA_o (k := 1) (by omega), homeA_o (k := 4) (by omega), homeA_o (k := 9) (by omega)]
      refine ⟨c1, c2, ?_, c4, c5⟩
      by_cases c : f' = f
      · subst c
        unfold homeA
        rw [up2_eq, up2_eq]
      · rw [up2_ne (.inr c), s1o 6 (by omega) (by omega), homeA_o (by omega), c3]
    · rw [up2_ne (by omega), s1o 0 (by omega) (by omega), homeA_o (by omega), l1]
    · rw [up2_ne (by omega), s1o 1 (by omega) (by omega), z1 i h1 h2]
    · rw [up2_ne (by omega), s1o 3 (by omega) (by omega), homeA_o (by omega), tk g f' hg hf']
    · rw [up2_ne (by omega), up2_ne (by omega), s1o 8 (by omega) (by omega), homeA_o (k := 7) (by omega)]
      refine ⟨?_, (wt f' hf').2⟩
      by_cases c : f' = f
      · subst c
        unfold homeA
        rw [g3, up2_ne (by omega), up2_eq]
      · rw [s17 f' c, homeA_o (by omega), (wt f' hf').1]
    · rw [up2_ne (by omega), up2_ne (by omega), s1o 5 (by omega) (by omega), s1o 9 (by omega) (by omega)]
      exact zz f' h1 h2
    · rw [up2_ne (by omega), up2_ne (by omega), up2_ne (by omega), s1o 10 (by omega) (by omega), s1o 11 (by omega) (by omega), s1o 12 (by omega) (by omega), homeA_o (by omega), homeA_o (by omega), homeA_o (by omega)]
      exact pp p hp
    · funext k
      rw [up2_ne (by omega), s1o 13 (by omega) (by omega)]
  · -- there
    have q : ¬ nI g = -1 := nI_nm1 (by omega)
    rw [h, if_neg q, nI_clamp (by omega)]
    rw [h] at g3
    have i2 : inb (nI g) 8 := (inbN (by omega)).mpr (by omega)
    have hlc : ∀ s, up2 st1 2 g (s) 1 = st 1 ∧ up2 st1 2 g s 4 = st 4 := fun s => ⟨by funext k; rw [up2_ne (by omega), s1o 1 (by omega) (by omega)], by funext k; rw [up2_ne (by omega), s1o 4 (by omega) (by omega)]⟩
    have eW := (T.2.2.1 f hf)
    obtain ⟨st2, m', f1, f2, f3, f4, f5, f6, f7, f8, f9, f10, f11, f12, f13, f14⟩ := r_fishFor (st := up2 st1 2 g (A (18 + 2 * g) 1 + 1)) (A := A) (f := f) (g := g) L (by omega) (by omega) (D.1 g hg) (D.2 f hf) (fun k hk => by rw [(hlc _).1, rF g k hg hk]) (by rw [(hlc _).2, (rE f hf).1]) eW.2.1 eW.2.2
    have em : sailA A f g (34 + 2 * f) 1 = nI m' := by rw [sailA_mesh (by omega) (by omega), f2]
    obtain ⟨k1, k2, k3, k4, k5, k6⟩ := sailA_k (A := A) (f := f) (g := g) (by omega) (by omega)
    rw [em, nI_clamp (by omega)] at k2 k5
    have so : ∀ d, d ≠ 1 → d ≠ 2 → d ≠ 3 → d ≠ 4 → d ≠ 6 → d ≠ 7 → d ≠ 8 → d ≠ 15 → d ≠ 16 → st2 d = st d := fun d h1 h2 h3 h4 h5 h6 h7 h8 h9 => by
      rw [f14 d h1 h3 h4 h5 h7 h8]
      funext k
      rw [up2_ne (.inl h2), s1o d h9 h6]
    have e2 : st2 2 = up2 st1 2 g (A (18 + 2 * g) 1 + 1) 2 := f14 2 (by omega) (by omega) (by omega) (by omega) (by omega) (by omega)
    have e7 : st2 7 = st1 7 := by
      rw [f14 7 (by omega) (by omega) (by omega) (by omega) (by omega) (by omega)]
      funext k; exact up2_ne (by omega)
    refine ⟨st2, ?_, ⟨⟨?_, fun g' k hg' hk => ?_, fun g' hg' => ?_, fun f' hf' => ?_⟩, ⟨?_, fun i h1 h2 => ?_, fun g' f' hg' hf' => ?_, fun f' hf' => ?_, fun f' h1 h2 => ?_, fun p hp => ?_⟩⟩, so 13 (by omega) (by omega) (by omega) (by omega) (by omega) (by omega) (by omega) (by omega) (by omega)⟩
    · unfold b_X12_fisher_82
      rw [ck_t (q_T L), dr_s (q_R8 L), ck_t (q_T7 L), q_L7 L, ck_t i1, bC_Ic (by omega) (by omega), g3, if_neg q, ck_t i1, dr_s (q_R3 L), ck_t (q_T2 L), q_L2 L, ck_t i2, ck_t i2, bC_Ic (by omega) (by omega), s1o 2 (by omega) (by omega), rB g hg, bC_Wc (by omega) (by omega)]
      simp only [lw_S]
      rw [dr_s (q_R8 L), ck_t (q_T7 L), q_L7 L, ck_t i1, bC_Ic (by omega) (by omega), up2_ne (by omega), g3, f1, bd_S]
    · rw [so 0 (by omega) (by omega) (by omega) (by omega) (by omega) (by omega) (by omega) (by omega) (by omega), sailA_o (by omega) (by omega) (by omega) (by omega), r0]
    · by_cases c : g' = g
      · subst c
        have := f4 (k + 1) (by omega) (by omega)
        rw [show 5 * g' + (k + 1) - 1 = 5 * g' + k by omega] at this
        rw [this, sailA_fish (by omega) (by omega), k6, em, nI_clamp (by omega)]
      · rw [f5 (5 * g' + k) (by omega), (hlc _).1, sailA_o (by omega) (by omega) (by omega) (by omega), rF g' k hg' hk]
    · rw [e2]
      by_cases c : g' = g
      · subst c
        rw [up2_eq, k1]
        rfl
      · rw [up2_ne (.inr c), s1o 2 (by omega) (by omega), sailA_o (by omega) (by omega) (by omega) (by omega), rB g' hg']
    · obtain ⟨c1, c2, c3, c4, c5⟩ := rE f' hf'
      rw [so 5 (by omega) (by omega) (by omega) (by omega) (by omega) (by omega) (by omega) (by omega) (by omega), so 9 (by omega) (by omega) (by omega) (by omega) (by omega) (by omega) (by omega) (by omega) (by omega), sailA_o (k := 4) (by omega) (by omega) (by omega) (by omega), sailA_o (k := 9) (by omega) (by omega) (by omega) (by omega)]
      by_cases c : f' = f
      · subst c
        exact ⟨by rw [f6, em], c2, by rw [f10, k2], c4, c5⟩
      · refine ⟨?_, c2, ?_, c4, c5⟩
        · rw [f7 f' c, (hlc _).2, sailA_o (by omega) (by omega) (by omega) (by omega), c1]
        · rw [f11 f' c, up2_ne (by omega), s1o 6 (by omega) (by omega), sailA_o (by omega) (by omega) (by omega) (by omega), c3]
    · rw [so 0 (by omega) (by omega) (by omega) (by omega) (by omega) (by omega) (by omega) (by omega) (by omega), sailA_o (by omega) (by omega) (by omega) (by omega), l1]
    · rw [f5 i (by omega), (hlc _).1, z1 i h1 h2]
    · by_cases c : g' = g ∧ f' = f
      · obtain ⟨rfl, rfl⟩ := c
        rw [f12, up2_ne (by omega), s1o 3 (by omega) (by omega), tk g' f' hg' hf', k5]
      · have c' : 8 * g' + f' ≠ 8 * g + f := by omega
        rw [f13 _ c', up2_ne (by omega), s1o 3 (by omega) (by omega), tk g' f' hg' hf', sailA_o (by omega) (by omega) (by omega) (by omega)]
    · rw [e7]
      by_cases c : f' = f
      · subst c
        rw [g3, k3, f8, k4, up2_ne (by omega), s1o 8 (by omega) (by omega), (wt f' hf').2]
        exact ⟨rfl, rfl⟩
      · rw [s17 f' c, f9 f' c, up2_ne (by omega), s1o 8 (by omega) (by omega), sailA_o (by omega) (by omega) (by omega) (by omega), sailA_o (by omega) (by omega) (by omega) (by omega)]
        exact wt f' hf'
    · rw [so 5 (by omega) (by omega) (by omega) (by omega) (by omega) (by omega) (by omega) (by omega) (by omega), so 9 (by omega) (by omega) (by omega) (by omega) (by omega) (by omega) (by omega) (by omega) (by omega)]
      exact zz f' h1 h2
    · rw [so 10 (by omega) (by omega) (by omega) (by omega) (by omega) (by omega) (by omega) (by omega) (by omega), so 11 (by omega) (by omega) (by omega) (by omega) (by omega) (by omega) (by omega) (by omega) (by omega), so 12 (by omega) (by omega) (by omega) (by omega) (by omega) (by omega) (by omega) (by omega) (by omega), sailA_o (by omega) (by omega) (by omega) (by omega), sailA_o (by omega) (by omega) (by omega) (by omega), sailA_o (by omega) (by omega) (by omega) (by omega)]
      exact pp p hp
