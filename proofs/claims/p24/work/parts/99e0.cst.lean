/-! ## Pure: the class's object, and what its methods answer -/
def PSt (Z pg : Nat → Nat) (b o o' n kb len F G np ng : Nat) (T : Nat → Nat) (M : gMem) : Prop :=
  CIv b o o' n T M ∧ PG Z pg o len M (cutF 86 o M) ∧ (WS (cutF 86 o M) F G np ng ∧ WD (cutF 86 o M) F G ∧ SVa kb (cutF 86 o M) F G) ∧ (∀ f, f < F → cutF 86 o M (34 + 2 * f) 9 = 0 ∨ cutF 86 o M (34 + 2 * f) 9 = 1) ∧ VB pg (cutF 86 o M) F G len
/-- what a call of the object at b leaves alone -/
def CFr (b : Nat) (M X : gMem) : Prop := mT X = mT M ∧ mL X = mL M ∧ mJ X = mJ M ∧ mN X = mN M ∧ ∀ a, a < b + 6 ∨ b + 178 ≤ a → mI X a = mI M a ∧ mR X a = mR M a
theorem CFr_r (b : Nat) (M : gMem) : CFr b M M := ⟨rfl, rfl, rfl, rfl, fun _ _ => ⟨rfl, rfl⟩⟩
theorem CFr_t {b : Nat} {M X Y : gMem} (h : CFr b M X) (k : CFr b X Y) : CFr b M Y := ⟨k.1.trans h.1, k.2.1.trans h.2.1, k.2.2.1.trans h.2.2.1, k.2.2.2.1.trans h.2.2.2.1, fun a ha => ⟨(k.2.2.2.2 a ha).1.trans (h.2.2.2.2 a ha).1, (k.2.2.2.2 a ha).2.trans (h.2.2.2.2 a ha).2⟩⟩
theorem CIv_u {b o o' n : Nat} {T : Nat → Nat} {M X : gMem} (C : CIv b o o' n T M) (hT : ∀ a, a < b + 178 → mT X a = mT M a ∧ mL X a = mL M a ∧ (a ≠ o' + 6 → a ≠ o + 6 → mR X a = mR M a)) (hI : ∀ a, a < b + 6 → mI X a = mI M a) (hF : FRS o X ∧ FRS o' X ∧ PSz o X ∧ PSz o' X) (hN : mN M ≤ mN X) : CIv b o o' n T X := by
  obtain ⟨⟨t0, r0, r1, r2⟩, oo, TPM, ⟨L1, L2, -, -, -, -⟩, cN⟩ := C
  have hR' : ∀ a, a < b + 178 → a ≠ o' + 6 → a ≠ o + 6 → mR X a = mR M a := fun a h h' h2 => (hT a h).2.2 h' h2
  exact ⟨⟨(hT b (by omega)).1.trans t0, by rw [hR' b (by omega) (by omega) (by omega)]; exact r0, by rw [hR' b (by omega) (by omega) (by omega)]; exact r1, by rw [hR' b (by omega) (by omega) (by omega)]; exact r2⟩, oo, TP_n TPM (fun j hj => ⟨(hT _ (by omega)).1, (hT _ (by omega)).2.1⟩) (hR' _ (by omega) (by omega) (by omega)) (by rw [hI (b + 1) (by omega)]; exact TPM.2.2.1) TPM.2.2.2.1 (fun q hq => by rw [hI (b + 1 + 1) (by omega)]; exact TPM.2.2.2.2 q hq), ⟨LC_e L1 fun d hd => ⟨(hT _ (by omega)).1, (hT _ (by omega)).2.1, fun _ => hR' _ (by omega) (by omega) (by omega)⟩, LC_e L2 fun d hd => ⟨(hT _ (by omega)).1, (hT _ (by omega)).2.1, fun z => hR' _ (by omega) (by omega) (by omega)⟩, hF⟩, by omega⟩
section CS
variable {Z pg : Nat → Nat} {b o o' n kb len F G np ng : Nat} {T : Nat → Nat} {M : gMem}
theorem PS_c (S : PSt Z pg b o o' n kb len F G np ng T M) : (mT M b = 10 ∧ mR M b 0 = some (b + 1) ∧ mR M b 1 = some o ∧ mR M b 2 = some o') ∧ (LC o M ∧ LC o' M ∧ mT M o = 7 ∧ sC o (cutF 86 o M) M = M) ∧ (mI M o 2 = nI G ∧ mI M o 3 = nI F ∧ mI M o 5 = nI np ∧ mI M o 4 = nI ng) ∧ (G ≤ 8 ∧ F ≤ 8 ∧ np ≤ 6 ∧ ng ≤ 24) ∧ (o + 86 ≤ o' ∨ o' + 86 ≤ o) ∧ (b + 6 ≤ o ∧ b + 6 ≤ o' ∧ o + 86 ≤ b + 178 ∧ o' + 86 ≤ b + 178) ∧ PSz o M ∧ PSz o' M ∧ FRS o M ∧ FRS o' M ∧ mT M (b + 1) = 9 ∧ mI M (b + 1) 0 = nI n := by
  obtain ⟨⟨⟨t0, r0, r1, r2⟩, oo, TPM, ⟨L1, L2, F1, F2, P1, P2⟩, cN⟩, P, ⟨W, D, V⟩, c9, vb⟩ := S
  have A0 : mI M o = cutF 86 o M 0 := (cutF_e (n := 86) (d := 0) (by omega)).symm
  refine ⟨⟨t0, r0, r1, r2⟩, ⟨L1, L2, lTo L1, sC_cut⟩, ⟨by rw [A0]; exact W.1, by rw [A0]; exact W.2.2.1, by rw [A0]; exact W.2.2.2.2.1.1, by rw [A0]; exact W.2.2.2.2.2.1.1⟩, ⟨W.2.1, W.2.2.2.1, W.2.2.2.2.1.2.1, W.2.2.2.2.2.1.2.1⟩, by omega, by omega, P1, P2, F1, F2, TPM.1.1, TPM.2.2.1⟩
/-- another memory, the same object -/
theorem PS_fr {X : gMem} (S : PSt Z pg b o o' n kb len F G np ng T M) (h : ∀ a, a < b + 178 → mT X a = mT M a ∧ mL X a = mL M a ∧ mI X a = mI M a ∧ mR X a = mR M a) (hN : mN M ≤ mN X) : PSt Z pg b o o' n kb len F G np ng T X ∧ cutF 86 o X = cutF 86 o M := by
  obtain ⟨-, -, -, -, -, ⟨q1, q2, q3, q4⟩, P1, P2, F1, F2, -, -⟩ := PS_c S
  have ec : cutF 86 o X = cutF 86 o M := by
    funext d
    by_cases hd : d < 86
    · rw [cutF_e hd, cutF_e hd, (h (o + d) (by omega)).2.2.1]
    · unfold cutF
      rw [if_neg hd, if_neg hd]
  obtain ⟨C, P, WDV, c9, vb⟩ := S
  refine ⟨⟨CIv_u C (fun a ha => ⟨(h a ha).1, (h a ha).2.1, fun _ _ => (h a ha).2.2.2⟩) (fun a ha => (h a (by omega)).2.2.1) ⟨FRS_e F1 fun d i1 i2 => (h _ (by omega)).2.2.1, FRS_e F2 fun d i1 i2 => (h _ (by omega)).2.2.1, PSz_e P1 fun d i1 i2 => (h _ (by omega)).2.2.1, PSz_e P2 fun d i1 i2 => (h _ (by omega)).2.2.1⟩ hN, ?_, by rw [ec]; exact WDV, by rw [ec]; exact c9, by rw [ec]; exact vb⟩, ec⟩
  rw [ec]
  exact PG_cg (fun d _ _ => rfl) ((h (o + 6) (by omega)).2.2.2) P
/-- behind a look ahead -/
theorem PS_o {X : gMem} (S : PSt Z pg b o o' n kb len F G np ng T M) (O : OFr o' M X) : PSt Z pg b o o' n kb len F G np ng T X ∧ cutF 86 o X = cutF 86 o M ∧ CFr b M X := by
  obtain ⟨-, -, -, -, q0, ⟨q1, q2, q3, q4⟩, P1, P2, F1, F2, -, -⟩ := PS_c S
  obtain ⟨o1, o2, o3, o4, o5, o6, o7⟩ := O
  have ec : cutF 86 o X = cutF 86 o M := by
    funext d
    by_cases hd : d < 86
    · rw [cutF_e hd, cutF_e hd, o6 (o + d) (by omega)]
    · unfold cutF
      rw [if_neg hd, if_neg hd]
  obtain ⟨C, P, WDV, c9, vb⟩ := S
  refine ⟨⟨CIv_u C (fun a ha => ⟨by rw [o1], by rw [o2], fun h1 _ => o5 a h1⟩) (fun a ha => o6 a (by omega)) ⟨FRS_e F1 fun d i1 i2 => o6 _ (by omega), FRS_e F2 fun d i1 i2 => o6 _ (by omega), PSz_e P1 fun d i1 i2 => o6 _ (by omega), o7⟩ (by omega), ?_, by rw [ec]; exact WDV, by rw [ec]; exact c9, by rw [ec]; exact vb⟩, ec, o1, o2, o3, o4, fun a ha => ⟨o6 a (by omega), o5 a (by omega)⟩⟩
  rw [ec]
  exact PG_cg (fun d _ _ => rfl) (o5 (o + 6) (by omega)) P
theorem cut_sC {A' : Nat → Nat → Int32} {d : Nat} (hd : d < 86) : cutF 86 o (sC o A' M) d = A' d := by
  rw [cutF_e hd]
  funext k
  exact sC_I hd
/-- the object's own Shore has new numbers -/
theorem PS_s {A' : Nat → Nat → Int32} {kb' : Nat} (S : PSt Z pg b o o' n kb len F G np ng T M) (hE : eqX (cutF 86 o M) A') (h12 : ∀ d, 12 ≤ d → d < 18 → A' d = cutF 86 o M d) (D : WD A' F G) (V : SVa kb' A' F G) (c9' : ∀ f, f < F → A' (34 + 2 * f) 9 = 0 ∨ A' (34 + 2 * f) 9 = 1) : PSt Z pg b o o' n kb' len F G np ng T (sC o A' M) ∧ CFr b M (sC o A' M) := by
  obtain ⟨-, ⟨L1, L2, -, -⟩, -, ⟨hG, hF, hp6, hng⟩, q0, ⟨q1, q2, q3, q4⟩, P1, P2, F1, F2, -, -⟩ := PS_c S
  obtain ⟨C, P, ⟨W, D0, V0⟩, c9, vb⟩ := S
  have out : ∀ a, (a < o ∨ o + 86 ≤ a) → mI (sC o A' M) a = mI M a := fun a h => by funext k; exact sC_Io h
  have ins : ∀ d, d < 86 → mI (sC o A' M) (o + d) = A' d := fun d hd => by funext k; exact sC_I hd
  have e5 : A' 5 = cutF 86 o M 5 := funext fun k => hE 5 k (by unfold toldX told; omega)
  have e7 : A' 7 = cutF 86 o M 7 := funext fun k => hE 7 k (by unfold toldX told; omega)
  have hc : ∀ d, d < 86 → cutF 86 o (sC o A' M) d = A' d := fun d hd => cut_sC hd
  refine ⟨⟨CIv_u C (fun a ha => ⟨rfl, rfl, fun _ _ => rfl⟩) (fun a ha => out a (by omega)) ⟨FRS_e F1 fun d i1 i2 => by rw [ins d (by omega), h12 d i1 i2, cutF_e (by omega)], FRS_e F2 fun d i1 i2 => out _ (by omega), eqX_PSz P1 hE ins, PSz_e P2 fun d i1 i2 => out _ (by omega)⟩ (Nat.le_refl _), ?_, ⟨WS_cg (fun d _ h => hc d h) (fun k _ => by rw [hc 0 (by omega)]) (WS_x hE W), WD_cg (fun d _ h => hc d h) hF hG D, SVa_cg (fun d _ h => hc d (by omega)) hF hG V⟩, fun f hf => by rw [hc _ (by omega)]; exact c9' f hf, fun s hs => ?_⟩, rfl, rfl, rfl, rfl, fun a ha => ⟨out a (by omega), rfl⟩⟩
  · exact PG_cg (fun d _ h => hc d h) rfl (PG_congr P e7 e5)
  · rw [hc 7 (by omega), e7]
    exact vb s hs
/-- numbers that are of use for a moment alone -/
theorem PS_z {A' : Nat → Nat → Int32} (S : PSt Z pg b o o' n kb len F G np ng T M) (h : nz A' = nz (cutF 86 o M)) : PSt Z pg b o o' n kb len F G np ng T (sC o A' M) ∧ CFr b M (sC o A' M) ∧ nz (cutF 86 o (sC o A' M)) = nz (cutF 86 o M) := by
  have hz := nz_rows h
  obtain ⟨-, -, -, ⟨hG, hF, hp6, hng⟩, -, -, -, -, -, -, -, -⟩ := PS_c S
  obtain ⟨-, -, ⟨W, D, V⟩, c9, -⟩ := id S
  obtain ⟨a, c⟩ := PS_s S (fun d k z => by rw [hz d (by unfold toldX told at z; omega)]) (fun d d1 d2 => hz d (by omega)) (by
    refine ⟨fun g hg s s1 s2 => ?_, fun f hf => ?_⟩
    · rw [hz _ (by omega)]; exact D.1 g hg s s1 s2
    · have d2 := D.2 f hf
      unfold okF at d2 ⊢
      rw [hz _ (by omega)]; exact d2) (SVa_cg (fun d d1 d2 => hz d (by omega)) hF hG V) (fun f hf => by rw [hz _ (by omega)]; exact c9 f hf)
  refine ⟨a, c, ?_⟩
  funext d k
  by_cases e : 8 ≤ d ∧ d ≤ 11
  · rw [nz_t e, nz_t e]
  · rw [nz_e (by omega), nz_e (by omega)]
    by_cases hd : d < 86
    · rw [cut_sC hd, hz d (by omega)]
    · unfold cutF
      rw [if_neg hd, if_neg hd]
end CS
