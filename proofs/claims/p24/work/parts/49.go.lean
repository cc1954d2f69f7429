/-- the goes of a Shore are in order -/
def GO (sg : Nat → Nat → Int32) (ng : Nat) : Prop := sg 0 4 = nI ng ∧ ng ≤ 24 ∧ ∀ i, i < ng → (∃ f, f < 8 ∧ sg (50 + i) 0 = nI f) ∧ (∃ g, g < 8 ∧ sg (50 + i) 1 = nI g) ∧ (∃ a, a < 2 ^ 30 ∧ sg (50 + i) 2 = nI a) ∧ ∃ b, b < 2 ^ 30 ∧ sg (50 + i) 3 = nI b
theorem GO_congr {sg sg' : Nat → Nat → Int32} {ng : Nat} (K : GO sg ng) (h : eqZ sg sg') : GO sg' ng := by
  obtain ⟨h1, h2, h3⟩ := K
  refine ⟨by rw [h 0 (by omega)]; exact h1, h2, fun p hp => ?_⟩
  rw [h (50 + p) (by omega)]
  exact h3 p hp
/-- the go i lets the fisher f sail: it is his, its ground has room, its sum isn't 0 or it has none, and he isn't kept away -/
def goOK (pg : Nat → Nat) (len np : Nat) (sg : Nat → Nat → Int32) (f i : Nat) : Prop := sg (50 + i) 0 = nI f ∧ sg (18 + 2 * (sg (50 + i) 1).toNatClampNeg) 1 < sg (18 + 2 * (sg (50 + i) 1).toNatClampNeg) 0 ∧ (sg (50 + i) 2 = sg (50 + i) 3 ∨ ¬ rk pg sg (sg (50 + i) 2).toNatClampNeg (sg (50 + i) 3).toNatClampNeg len = 0) ∧ ¬ sparedP pg len np sg (sg (50 + i) 1).toNatClampNeg f
theorem goOK_congr {pg : Nat → Nat} {len np : Nat} {sg sg' : Nat → Nat → Int32} (h : eqZ sg sg') {f i : Nat} : goOK pg len np sg' f i ↔ goOK pg len np sg f i := by
  unfold goOK
  rw [h (50 + i) (by omega), h (18 + 2 * (sg (50 + i) 1).toNatClampNeg) (by omega), rk_congr h, sparedP_congr h]
theorem e_114 {Z : Nat → Nat} {N : gMem} {o i : Nat} {f : Int32} : b_X7_firstGo_114 Z N o f (nI i) = some (.inl (N, nI (i + 1))) := by
  unfold b_X7_firstGo_114
  rw [nI_1]
theorem s7_go90 {Z pg : Nat → Nat} {M : gMem} {o len np g f i : Nat} {sg : Nat → Nat → Int32} (L : LC o M) (P : PG Z pg o len M sg) (K : PK sg np) (hi : i < 24) (hf : f < 8) (hg : g < 8) (eg : sg (50 + i) 1 = nI g) : ∃ sg', eqS sg sg' ∧ (¬ sparedP pg len np sg g f → b_X7_firstGo_90 Z (sC o sg M) o (nI f) (nI i) (some (o + (50 + i))) 1 = some (.inr (nI g, sC o sg' M))) ∧ (sparedP pg len np sg g f → b_X7_firstGo_90 Z (sC o sg M) o (nI f) (nI i) (some (o + (50 + i))) 1 = some (.inl (sC o sg' M, nI (i + 1)))) := by
  obtain ⟨sg', he, hs⟩ := s7_isSpared (g := g) (f := f) L P K hg hf
  have n1 : ¬ (1 : Int32) = 0 := by decide
  refine ⟨sg', he, fun c => ?_, fun c => ?_⟩
  · unfold b_X7_firstGo_90
    rw [if_neg n1, dr_S, ck_t (cTgo L hi), ck_t (cT0 L), sC_I (by omega), eg, hs, bd_S, cif_f c, if_pos rfl, ck_t (cTgo L hi), sC_I (by omega), he (50 + i) (by omega), eg]
    rfl
  · unfold b_X7_firstGo_90
    rw [if_neg n1, dr_S, ck_t (cTgo L hi), ck_t (cT0 L), sC_I (by omega), eg, hs, bd_S, cif_t c, if_neg n1]
    exact e_114
theorem s7_goStep {Z pg : Nat → Nat} {M : gMem} {o len np ng f i : Nat} {sg : Nat → Nat → Int32} (L : LC o M) (P : PG Z pg o len M sg) (K : PK sg np) (G : GO sg ng) (hi : i < ng) (hf : f < 8) : ∃ sg', eqS sg sg' ∧ (goOK pg len np sg f i → bb_X7_firstGo_2 Z (sC o sg M) o (nI f) (nI i) = some (.inr (sg (50 + i) 1, sC o sg' M))) ∧ (¬ goOK pg len np sg f i → bb_X7_firstGo_2 Z (sC o sg M) o (nI f) (nI i) = some (.inl (sC o sg' M, nI (i + 1)))) := by
  obtain ⟨hn, hn24, G⟩ := G
  obtain ⟨⟨f', hf', ef⟩, ⟨g, hg, eg⟩, ⟨a, ha, ea⟩, b, hb, eb⟩ := G i hi
  have hgo : goOK pg len np sg f i ↔ (sg (50 + i) 0 = nI f ∧ sg (18 + 2 * g) 1 < sg (18 + 2 * g) 0 ∧ (sg (50 + i) 2 = sg (50 + i) 3 ∨ ¬ rk pg sg a b len = 0) ∧ ¬ sparedP pg len np sg g f) := by
    unfold goOK
    rw [eg, ea, eb, nI_clamp (n := a) (by omega), nI_clamp (n := b) (by omega), nI_clamp (n := g) (by omega)]
  rw [hgo]
  have q1 : ¬ nI ng ≤ nI i := fun q => by have := (nI_leI (by omega) (by omega)).mp q; omega
  have q2 : inb (nI i) 24 := (inbN (by omega)).mpr (by omega)
  have q3 : inb (nI g) 8 := (inbN (by omega)).mpr (by omega)
  have hr1 : mR (sC o sg M) (o + 1) (nI g).toNatClampNeg = some (o + (18 + 2 * g)) := by rw [nI_clamp (by omega)]; exact cRrg L hg
  unfold bb_X7_firstGo_2
  rw [ck_t (cT0 L), sC_I0, hn, if_neg q1, dr_s (cR0_8 L), ck_t (cT3 L), cL3 L, ck_t q2, nI_clamp (n := i) (by omega), dr_s (cRrgo L (by omega)), ck_t (cTgo L (by omega)), sC_I (by omega)]
  by_cases c1 : sg (50 + i) 0 = nI f
  · rw [if_pos c1, dr_s (cR0_6 L), ck_t (cT1 L), cL1 L, sC_I (by omega), eg, ck_t q3, dr_s hr1, ck_t (cTg L hg), ck_t q3, sC_I (by omega), sC_I (by omega)]
    by_cases c2 : sg (18 + 2 * g) 1 < sg (18 + 2 * g) 0
    · rw [if_pos c2, sC_I (by omega), sC_I (by omega), cRrgo L (by omega)]
      by_cases c3 : sg (50 + i) 2 = sg (50 + i) 3
      · obtain ⟨sg', he, h1, h2⟩ := s7_go90 (i := i) (f := f) L P K (by omega) hf hg eg
        rw [if_pos c3]
        refine ⟨sg', he, fun z => h1 z.2.2.2, fun z => h2 ?_⟩
        exact Classical.byContradiction fun w => z ⟨c1, c2, .inl c3, w⟩
      · obtain ⟨sg1, e1, hr⟩ := s_rk (st := a) (en := b) L P ha (by omega)
        rw [if_neg c3, dr_s (cR0_10 L), ck_t (cT5 L), ea, eb, hr, bd_S]
        by_cases c4 : rk pg sg a b len = 0
        · rw [if_pos c4]
          refine ⟨sg1, e1, fun z => ?_, fun _ => ?_⟩
          · exact absurd z.2.2.1 (fun w => w.elim (fun k => c3 (by rw [ea, eb] at *; exact k)) (fun k => k c4))
          · unfold b_X7_firstGo_90
            rw [if_pos rfl]
            exact e_114
        · rw [if_neg c4]
          obtain ⟨sg', he, h1, h2⟩ := s7_go90 (i := i) (f := f) L (PG_eqS P (eqS_Z e1)) (PK_congr K (eqS_Z e1)) (by omega) hf hg (by rw [e1 (50 + i) (by omega)]; exact eg)
          refine ⟨sg', eqS_t e1 he, fun z => h1 fun w => z.2.2.2 ((sparedP_congr (eqS_Z e1)).mp w), fun z => h2 ?_⟩
          exact Classical.byContradiction fun w => z ⟨c1, c2, .inr c4, fun y => w ((sparedP_congr (eqS_Z e1)).mpr y)⟩
    · rw [if_neg c2]
      exact ⟨sg, eqS_r sg, fun z => absurd z.2.1 c2, fun _ => e_114⟩
  · rw [if_neg c1]
    exact ⟨sg, eqS_r sg, fun z => absurd z.1 c1, fun _ => e_114⟩
/-- the ground of the first of d goes from i on that lets f sail; -1: none -/
noncomputable def fgo (pg : Nat → Nat) (len np : Nat) (sg : Nat → Nat → Int32) (f : Nat) : Nat → Nat → Int32
  | 0, _ => -1
  | d + 1, i => cif (goOK pg len np sg f i) (sg (50 + i) 1) (fgo pg len np sg f d (i + 1))
theorem fgo_congr {pg : Nat → Nat} {len np : Nat} {sg sg' : Nat → Nat → Int32} (h : eqZ sg sg') {f : Nat} : ∀ d i, i + d ≤ 24 → fgo pg len np sg' f d i = fgo pg len np sg f d i
  | 0, _, _ => rfl
  | d + 1, i, hd => by
    unfold fgo
    rw [h (50 + i) (by omega), fgo_congr h d (i + 1) (by omega)]
    by_cases c : goOK pg len np sg f i
    · rw [cif_t c, cif_t ((goOK_congr h).mpr c)]
    · rw [cif_f c, cif_f fun z => c ((goOK_congr h).mp z)]
theorem s7_goLoop {Z pg : Nat → Nat} {M : gMem} {o len np ng f : Nat} (L : LC o M) (hf : f < 8) : ∀ (d i : Nat) (sg : Nat → Nat → Int32), PG Z pg o len M sg → PK sg np → GO sg ng → i + d = ng → ∃ sg', eqS sg sg' ∧ lp_X7_firstGo_2 Z (sC o sg M) o (nI f) (nI i) = some (fgo pg len np sg f d i, sC o sg' M)
  | 0, i, sg, P, K, G, hd => by
    obtain ⟨hn, hn24, _⟩ := G
    refine ⟨sg, eqS_r sg, ?_⟩
    unfold lp_X7_firstGo_2
    refine lp_out ?_
    have q1 : nI ng ≤ nI i := (nI_leI (by omega) (by omega)).mpr (by omega)
    show bb_X7_firstGo_2 Z (sC o sg M) o (nI f) (nI i) = _
    unfold bb_X7_firstGo_2
    rw [ck_t (cT0 L), sC_I0, hn, if_pos q1]
    rfl
  | d + 1, i, sg, P, K, G, hd => by
    obtain ⟨sg1, e1, r1, r2⟩ := s7_goStep (i := i) (f := f) L P K G (by omega) hf
    have hn24 := G.2.1
    by_cases c : goOK pg len np sg f i
    · refine ⟨sg1, e1, ?_⟩
      unfold lp_X7_firstGo_2 fgo
      rw [cif_t c]
      exact lp_out (r1 c)
    · obtain ⟨sg2, e2, t⟩ := s7_goLoop L hf d (i + 1) sg1 (PG_eqS P (eqS_Z e1)) (PK_congr K (eqS_Z e1)) (GO_congr G (eqS_Z e1)) (by omega)
      refine ⟨sg2, eqS_t e1 e2, ?_⟩
      rw [fgo_congr (eqS_Z e1) d (i + 1) (by omega)] at t
      unfold fgo
      rw [cif_f c, ← t]
      unfold lp_X7_firstGo_2
      exact lp_in (r2 c)
theorem s7_firstGo {Z pg : Nat → Nat} {M : gMem} {o len np ng f : Nat} {sg : Nat → Nat → Int32} (L : LC o M) (P : PG Z pg o len M sg) (K : PK sg np) (G : GO sg ng) (hf : f < 8) : ∃ sg', eqS sg sg' ∧ f_X7_firstGo Z (sC o sg M) o (nI f) = some (fgo pg len np sg f ng 0, sC o sg' M) := s7_goLoop L hf ng 0 sg P K G (by omega)

