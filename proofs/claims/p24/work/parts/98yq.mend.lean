/-! ## Pure: the reference's cells in a memory where the class has changed; mend, cheat -/
theorem eqX_PSz {o : Nat} {A' : Nat → Nat → Int32} {M X : gMem} (P : PSz o M) (hE : eqX (cutF 86 o M) A') (hA : ∀ d, d < 86 → mI X (o + d) = A' d) : PSz o X := fun q hq => by
  rw [hA _ (by omega), hE _ _ (by unfold toldX told; omega), cutF_e (by omega)]
  exact P q hq
/-- both have new numbers -/
theorem STv_s {Z pg : Nat → Nat} {b m o o' t n kb kb' len F G np nO : Nat} {T : Nat → Nat} {M : gMem} {A' st' : Nat → Nat → Int32} {v : Int32} (S : STv Z b m o o' t n kb T M) (h1 : len ≤ 400) (P : PG Z pg o len M (cutF 86 o M)) (W : WS (cutF 86 o M) F G np nO) (TRr : TR pg len (cutF 86 o M) M t F G np nO) (hE : eqX (cutF 86 o M) A') (h12 : ∀ d, 12 ≤ d → d < 18 → A' d = cutF 86 o M d) (D : WD A' F G) (R : RS A' st' F G np) (V : SVa kb' A' F G) : STv Z b m o o' t n kb' T (bC 17 (m + 24) st' (wI (sC o A' M) m 0 v)) := by
  have S' := id S
  obtain ⟨s0, ⟨-, oo, -, ⟨L1, L2, F1, F2, P1, P2⟩, cN⟩, ⟨-, -, -, ⟨v1, v2, v3, v4⟩⟩, -, -⟩ := S'
  obtain ⟨X, hX⟩ : ∃ X, X = bC 17 (m + 24) st' (wI (sC o A' M) m 0 v) := ⟨_, rfl⟩
  have hA : ∀ d, d < 86 → mI X (o + d) = A' d := fun d hd => by
    funext k
    rw [hX, bC_Io (by omega), wI_o (.inl (by omega)), sC_I hd]
  have hS : ∀ d, d < 17 → mI X (m + 24 + d) = st' d := fun d hd => by
    funext k
    rw [hX, bC_I hd]
  have hO : ∀ a, a ≠ m → ¬ (o ≤ a ∧ a < o + 86) → ¬ (m + 24 ≤ a ∧ a < m + 41) → mI X a = mI M a := fun a i1 i2 i3 => by
    funext k
    rw [hX, bC_Io (by omega), wI_o (.inl i1), sC_Io (by omega)]
  rw [← hX]
  have oT : mT X = mT M := by rw [hX]; rfl
  have oL : mL X = mL M := by rw [hX]; rfl
  have oR : mR X = mR M := by rw [hX]; rfl
  have oN : mN X = mN M := by rw [hX]; rfl
  refine STv_u S (fun a _ => ⟨by rw [oT], by rw [oL], fun _ => by rw [oR]⟩) (fun a _ i1 i2 i3 => hO a i1 (by omega) (by omega)) (fun k hk => ?_) ⟨FRS_e F1 fun d i1 i2 => ?_, FRS_e F2 fun d i1 i2 => hO _ (by omega) (by omega) (by omega), eqX_PSz P1 hE hA, PSz_e P2 fun d i1 i2 => hO _ (by omega) (by omega) (by omega)⟩ (REL_u h1 P W TRr hE hA hS (by rw [oR]) (fun j hj => hO _ (by omega) (by omega) (by omega)) D R V) (by omega)
  · rw [hX, bC_Io (by omega), wI_o (.inr hk), sC_Io (by omega)]
  · rw [hA d (by omega), h12 d i1 i2, cutF_e (by omega)]
/-- the reference, seen behind the class -/
theorem STv_y {Z : Nat → Nat} {b m o o' t n kb : Nat} {T : Nat → Nat} {M : gMem} {A' : Nat → Nat → Int32} (v : Int32) (S : STv Z b m o o' t n kb T M) : bC 17 (m + 24) (cutF 17 (m + 24) M) (wI (sC o A' M) m 0 v) = wI (sC o A' M) m 0 v ∧ ∀ j k, j < 17 → mI (wI (sC o A' M) m 0 v) (t + j) k = mI M (t + j) k := by
  obtain ⟨s0, ⟨-, oo, -⟩, ⟨-, -, -, ⟨v1, v2, v3, v4⟩⟩, -, -⟩ := S
  refine ⟨?_, fun j k hj => by rw [wI_o (.inl (by omega)), sC_Io (by omega)]⟩
  have e : cutF 17 (m + 24) M = cutF 17 (m + 24) (wI (sC o A' M) m 0 v) := by
    funext d
    by_cases h : d < 17
    · rw [cutF_e h, cutF_e h]
      funext k
      rw [wI_o (.inl (by omega)), sC_Io (by omega)]
    · unfold cutF
      rw [if_neg h, if_neg h]
  rw [e]
  exact bC_cut
theorem up2_d {A : Nat → Nat → Int32} {d e k : Nat} {v : Int32} (h : d ≠ e) : up2 A e k v d = A d := funext fun j => up2_ne (.inl h)
