/-- the pact p at ground g hides it from the fisher f: f is in it, and what it tells is more than the fish there -/
def spares (pg : Nat → Nat) (len : Nat) (sg : Nat → Nat → Int32) (g f : Int32) (p : Nat) : Prop := sg (74 + 2 * p) 0 = g ∧ hasN (sg (75 + 2 * p)) (sg (74 + 2 * p) 3).toNatClampNeg f ∧ ¬ rk pg sg (sg (74 + 2 * p) 1).toNatClampNeg (sg (74 + 2 * p) 2).toNatClampNeg len ≤ sum5 (sg (19 + 2 * g.toNatClampNeg)) 5
theorem spares_congr {pg : Nat → Nat} {len : Nat} {sg sg' : Nat → Nat → Int32} (h : eqZ sg sg') {g f : Int32} {p : Nat} : spares pg len sg' g f p ↔ spares pg len sg g f p := by
  unfold spares
  rw [h (74 + 2 * p) (by omega), h (75 + 2 * p) (by omega), h (19 + 2 * g.toNatClampNeg) (by omega), rk_congr h]
/-- the pacts of a Shore are in order -/
def PK (sg : Nat → Nat → Int32) (np : Nat) : Prop := sg 0 5 = nI np ∧ np ≤ 6 ∧ ∀ p, p < np → (∃ c, c ≤ 8 ∧ sg (74 + 2 * p) 3 = nI c) ∧ (∃ a, a < 2 ^ 30 ∧ sg (74 + 2 * p) 1 = nI a) ∧ ∃ b, b < 2 ^ 30 ∧ sg (74 + 2 * p) 2 = nI b
theorem e_82 {Z : Nat → Nat} {N : gMem} {o p : Nat} {g f : Int32} : b_X7_isSpared_82 Z N o g f (nI p) = some (.inl (N, nI (p + 1))) := by
  unfold b_X7_isSpared_82
  rw [nI_1]
theorem s7_spStep {Z pg : Nat → Nat} {M : gMem} {o len np p g : Nat} {f : Int32} {sg : Nat → Nat → Int32} (L : LC o M) (P : PG Z pg o len M sg) (K : PK sg np) (hp : p < np) (hg : g < 8) : ∃ sg', eqS sg sg' ∧ (spares pg len sg (nI g) f p → bb_X7_isSpared_16 Z (sC o sg M) o (nI g) f (nI p) = some (.inr (1, sC o sg' M))) ∧ (¬ spares pg len sg (nI g) f p → bb_X7_isSpared_16 Z (sC o sg M) o (nI g) f (nI p) = some (.inl (sC o sg' M, nI (p + 1)))) := by
  obtain ⟨hn, hn6, K⟩ := K
  obtain ⟨⟨c, hc, ec⟩, ⟨a, ha, ea⟩, b, hb, eb⟩ := K p hp
  have hh := s5_has (M := M) (x := f) L (show p < 6 by omega) ec hc
  obtain ⟨sg', he, hr⟩ := s_rk (st := a) (en := b) L P ha (by omega)
  have q1 : ¬ nI np ≤ nI p := fun q => by have := (nI_leI (by omega) (by omega)).mp q; omega
  have q2 : inb (nI p) 6 := (inbN (by omega)).mpr (by omega)
  have q3 : inb (nI g) 8 := (inbN (by omega)).mpr (by omega)
  have hsp : spares pg len sg (nI g) f p ↔ (sg (74 + 2 * p) 0 = nI g ∧ hasN (sg (75 + 2 * p)) c f ∧ ¬ rk pg sg a b len ≤ sum5 (sg (19 + 2 * g)) 5) := by
    unfold spares
    rw [ec, ea, eb, nI_clamp (n := c) (by omega), nI_clamp (n := a) (by omega), nI_clamp (n := b) (by omega), nI_clamp (n := g) (by omega)]
  rw [hsp]
  unfold bb_X7_isSpared_16
  rw [ck_t (cT0 L), sC_I0, hn, if_neg q1, dr_s (cR0_9 L), ck_t (cT4 L), cL4 L, ck_t q2, nI_clamp (n := p) (by omega), dr_s (cRrp L (by omega)), ck_t (cTp L (by omega)), sC_I (by omega), hh, bd_S]
  by_cases c1 : sg (74 + 2 * p) 0 = nI g
  · rw [if_pos c1]
    by_cases c2 : hasN (sg (75 + 2 * p)) c f
    · have n1 : ¬ (1 : Int32) = 0 := by decide
      rw [cif_t c2, if_neg n1, ck_t (cT0 L), dr_s (cR0_6 L), ck_t (cT1 L), cL1 L, ck_t q3, nI_clamp (n := g) (by omega), dr_s (cRrg L hg), ck_t (cTg L hg), s_gFish L hg, bd_S, ck_t (cT0 L), ck_t (cTp L (by omega)), dr_s (cR0_10 L), ck_t (cT5 L), sC_I (by omega), sC_I (by omega), ea, eb, hr, bd_S]
      by_cases c3 : rk pg sg a b len ≤ sum5 (sg (19 + 2 * g)) 5
      · rw [if_pos c3]
        exact ⟨sg', he, fun z => absurd c3 z.2.2, fun _ => e_82⟩
      · rw [if_neg c3]
        exact ⟨sg', he, fun _ => rfl, fun z => absurd ⟨c1, c2, c3⟩ z⟩
    · rw [cif_f c2, if_pos rfl]
      exact ⟨sg, eqS_r sg, fun z => absurd z.2.1 c2, fun _ => e_82⟩
  · rw [if_neg c1]
    exact ⟨sg, eqS_r sg, fun z => absurd z.1 c1, fun _ => e_82⟩
theorem PK_congr {sg sg' : Nat → Nat → Int32} {np : Nat} (K : PK sg np) (h : eqZ sg sg') : PK sg' np := by
  obtain ⟨h1, h2, h3⟩ := K
  refine ⟨by rw [h 0 (by omega)]; exact h1, h2, fun p hp => ?_⟩
  rw [h (74 + 2 * p) (by omega)]
  exact h3 p hp
theorem PG_eqS {Z pg : Nat → Nat} {o len : Nat} {M : gMem} {sg sg' : Nat → Nat → Int32} (P : PG Z pg o len M sg) (h : eqZ sg sg') : PG Z pg o len M sg' := PG_congr P (h 7 (by omega)) (h 5 (by omega))
theorem s7_spLoop {Z pg : Nat → Nat} {M : gMem} {o len np g : Nat} {f : Int32} (L : LC o M) (hg : g < 8) : ∀ (d p : Nat) (sg : Nat → Nat → Int32), PG Z pg o len M sg → PK sg np → p + d = np → ∃ sg', eqS sg sg' ∧ ((∃ q, p ≤ q ∧ q < np ∧ spares pg len sg (nI g) f q) → lp_X7_isSpared_16 Z (sC o sg M) o (nI g) f (nI p) = some (1, sC o sg' M)) ∧ ((¬ ∃ q, p ≤ q ∧ q < np ∧ spares pg len sg (nI g) f q) → lp_X7_isSpared_16 Z (sC o sg M) o (nI g) f (nI p) = some (0, sC o sg' M))
  | 0, p, sg, P, K, hd => by
    obtain ⟨hn, hn6, _⟩ := K
    refine ⟨sg, eqS_r sg, fun ⟨q, a, b, _⟩ => by omega, fun _ => ?_⟩
    unfold lp_X7_isSpared_16
    refine lp_out ?_
    have q1 : nI np ≤ nI p := (nI_leI (by omega) (by omega)).mpr (by omega)
    show bb_X7_isSpared_16 Z (sC o sg M) o (nI g) f (nI p) = _
    unfold bb_X7_isSpared_16
    rw [ck_t (cT0 L), sC_I0, hn, if_pos q1]
    rfl
  | d + 1, p, sg, P, K, hd => by
    obtain ⟨sg1, e1, r1, r2⟩ := s7_spStep (p := p) (f := f) L P K (by omega) hg
    by_cases c : spares pg len sg (nI g) f p
    · refine ⟨sg1, e1, fun _ => ?_, fun z => absurd ⟨p, Nat.le_refl _, by omega, c⟩ z⟩
      unfold lp_X7_isSpared_16
      exact lp_out (r1 c)
    · obtain ⟨sg2, e2, t1, t2⟩ := s7_spLoop (f := f) L hg d (p + 1) sg1 (PG_eqS P (eqS_Z e1)) (PK_congr K (eqS_Z e1)) (by omega)
      have hx : (∃ q, p ≤ q ∧ q < np ∧ spares pg len sg (nI g) f q) ↔ ∃ q, p + 1 ≤ q ∧ q < np ∧ spares pg len sg1 (nI g) f q := by
        constructor
        · rintro ⟨q, a, b, z⟩
          refine ⟨q, ?_, b, (spares_congr (eqS_Z e1)).mpr z⟩
          rcases Nat.lt_or_ge p q with w | w
          · omega
          · exact absurd (by rw [show p = q by omega]; exact z) c
        · rintro ⟨q, a, b, z⟩
          exact ⟨q, by omega, b, (spares_congr (eqS_Z e1)).mp z⟩
      have hs : lp_X7_isSpared_16 Z (sC o sg M) o (nI g) f (nI p) = lp_X7_isSpared_16 Z (sC o sg1 M) o (nI g) f (nI (p + 1)) := by
        unfold lp_X7_isSpared_16
        exact lp_in (r2 c)
      rw [hs, hx]
      exact ⟨sg2, eqS_t e1 e2, t1, t2⟩
/-- a fisher who isn't a cheat is kept from a ground by a pact that spares -/
def sparedP (pg : Nat → Nat) (len np : Nat) (sg : Nat → Nat → Int32) (g f : Nat) : Prop := sg (34 + 2 * f) 9 = 0 ∧ ∃ q, q < np ∧ spares pg len sg (nI g) (nI f) q
theorem sparedP_congr {pg : Nat → Nat} {len np : Nat} {sg sg' : Nat → Nat → Int32} (h : eqZ sg sg') {g f : Nat} : sparedP pg len np sg' g f ↔ sparedP pg len np sg g f := by
  unfold sparedP
  rw [h (34 + 2 * f) (by omega)]
  constructor
  · rintro ⟨a, q, b, c⟩; exact ⟨a, q, b, (spares_congr h).mp c⟩
  · rintro ⟨a, q, b, c⟩; exact ⟨a, q, b, (spares_congr h).mpr c⟩
theorem s7_isSpared {Z pg : Nat → Nat} {M : gMem} {o len np g f : Nat} {sg : Nat → Nat → Int32} (L : LC o M) (P : PG Z pg o len M sg) (K : PK sg np) (hg : g < 8) (hf : f < 8) : ∃ sg', eqS sg sg' ∧ f_X7_isSpared Z (sC o sg M) o (nI g) (nI f) = some (cif (sparedP pg len np sg g f) 1 0, sC o sg' M) := by
  have q2 : inb (nI f) 8 := (inbN (by omega)).mpr (by omega)
  obtain ⟨sg', he, h1, h2⟩ := s7_spLoop (f := nI f) L hg np 0 sg P K (by omega)
  unfold f_X7_isSpared b_X7_isSpared_0
  rw [ck_t (cT0 L), dr_s (cR0_7 L), ck_t (cT2 L), cL2 L, ck_t q2, nI_clamp (n := f) (by omega), dr_s (cRrf L hf), ck_t (cTf L hf), sC_I (by omega)]
  by_cases c : sg (34 + 2 * f) 9 = 0
  · rw [if_pos c]
    by_cases c2 : ∃ q, q < np ∧ spares pg len sg (nI g) (nI f) q
    · rw [cif_t (show sparedP pg len np sg g f from ⟨c, c2⟩)]
      obtain ⟨q, a, b⟩ := c2
      exact ⟨sg', he, h1 ⟨q, Nat.zero_le _, a, b⟩⟩
    · rw [cif_f (show ¬ sparedP pg len np sg g f from fun z => c2 z.2)]
      exact ⟨sg', he, h2 fun ⟨q, _, a, b⟩ => c2 ⟨q, a, b⟩⟩
  · rw [if_neg c, cif_f (show ¬ sparedP pg len np sg g f from fun z => c z.1)]
    exact ⟨sg, eqS_r sg, rfl⟩

