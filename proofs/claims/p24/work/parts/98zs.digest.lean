/-! ## Pure: digest on both sides -/
/-- lots were drawn in the class, in the second State of the reference, and rows were made -/
theorem STv_l {Z pg : Nat → Nat} {b m o o' t n kb len F G np nO : Nat} {T : Nat → Nat} {M X : gMem} {A' : Nat → Nat → Int32} (S : STv Z b m o o' t n kb T M) (h1 : len ≤ 400) (P : PG Z pg o len M (cutF 86 o M)) (W : WS (cutF 86 o M) F G np nO) (D : WD (cutF 86 o M) F G) (TRr : TR pg len (cutF 86 o M) M t F G np nO) (R : RS (cutF 86 o M) (cutF 17 (m + 24) M) F G np) (V : SVa kb (cutF 86 o M) F G) (hz : ∀ d, (d < 8 ∨ 11 < d) → A' d = cutF 86 o M d) (hT : ∀ a, a < mN M → mT X a = mT M a ∧ mL X a = mL M a ∧ mR X a = mR M a) (hO : ∀ a, a < mN M → a ≠ m → ¬ (o ≤ a ∧ a < o + 86) → ¬ (m + 41 ≤ a ∧ a < m + 58) → mI X a = mI M a) (hA : ∀ d, d < 86 → mI X (o + d) = A' d) (hm : ∀ k, k ≠ 0 → mI X m k = mI M m k) (hN : mN M ≤ mN X) : STv Z b m o o' t n kb T X := by
  have hG : G ≤ 8 := W.2.1
  have hF : F ≤ 8 := W.2.2.2.1
  have S' := id S
  obtain ⟨s0, ⟨-, oo, -, ⟨L1, L2, F1, F2, P1, P2⟩, cN⟩, ⟨-, -, -, ⟨v1, v2, v3, v4⟩⟩, -, -⟩ := S'
  have hE : eqX (cutF 86 o M) A' := fun d k z => by
    rw [hz d (by unfold toldX told at z; omega)]
  have D' : WD A' F G := by
    refine ⟨fun g hg s s1 s2 => ?_, fun f' hf' => ?_⟩
    · rw [hz _ (by omega)]; exact D.1 g hg s s1 s2
    · have d2 := D.2 f' hf'
      unfold okF at d2 ⊢
      rw [hz _ (by omega)]; exact d2
  refine STv_u S (fun a h => ⟨(hT a h).1, (hT a h).2.1, fun _ => (hT a h).2.2⟩) (fun a i0 i1 i2 i3 => hO a i0 i1 (by omega) (by omega)) hm ⟨FRS_e F1 fun d i1 i2 => ?_, FRS_e F2 fun d i1 i2 => hO _ (by omega) (by omega) (by omega) (by omega), eqX_PSz P1 hE hA, PSz_e P2 fun d i1 i2 => hO _ (by omega) (by omega) (by omega) (by omega)⟩ (REL_u (st' := cutF 17 (m + 24) M) h1 P W TRr hE hA (fun d hd => ?_) (hT _ (by omega)).2.2 (fun j hj => hO _ (by omega) (by omega) (by omega) (by omega)) D' (RS_nz hz R) (SVa_cg (fun d i1 i2 => hz d (by omega)) hF hG V)) hN
  · rw [hA d (by omega), hz d (by omega), cutF_e (by omega)]
  · rw [hO _ (by omega) (by omega) (by omega) (by omega), cutF_e hd]
