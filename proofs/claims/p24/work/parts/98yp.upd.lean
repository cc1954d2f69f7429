/-! ## Pure: what changes both; mend, cheat, lot -/
def toldX (d k : Nat) : Prop := told d k ∧ (k ≠ 9 ∨ d < 34 ∨ 50 ≤ d)
def eqX (A A' : Nat → Nat → Int32) : Prop := ∀ d k, toldX d k → A' d k = A d k
theorem WS_x {A A' : Nat → Nat → Int32} {F G np ng : Nat} (h : eqX A A') (W : WS A F G np ng) : WS A' F G np ng := by
  obtain ⟨a1, a2, a3, a4, ⟨b1, b2, b3⟩, ⟨c1, c2, c3⟩, d, e⟩ := W
  have hp : ∀ p k, p < np → k ≤ 4 → A' (74 + 2 * p) k = A (74 + 2 * p) k := fun p k hp hk => h _ _ (by unfold toldX told; omega)
  have hm : ∀ p k, p < np → A' (75 + 2 * p) k = A (75 + 2 * p) k := fun p k hp => h _ _ (by unfold toldX told; omega)
  have hg : ∀ i k, i < ng → A' (50 + i) k = A (50 + i) k := fun i k hi => h _ _ (by unfold toldX told; omega)
  have h0 : ∀ k, 2 ≤ k → A' 0 k = A 0 k := fun k hk => h _ _ (by unfold toldX told; omega)
  refine ⟨by rw [h0 2 (by omega), a1], a2, by rw [h0 3 (by omega), a3], a4, ⟨by rw [h0 5 (by omega), b1], b2, fun p q => ?_⟩, ⟨by rw [h0 4 (by omega), c1], c2, fun i q => ?_⟩, fun i q => ?_, fun p q => ?_⟩
  · rw [hp p 3 q (by omega), hp p 1 q (by omega), hp p 2 q (by omega)]
    exact b3 p q
  · rw [hg i 0 q, hg i 1 q, hg i 2 q, hg i 3 q]
    exact c3 i q
  · rw [hg i 0 q, hg i 1 q]
    exact d i q
  · obtain ⟨n, n1, n2, n3, n4⟩ := e p q
    exact ⟨n, n1, n2, by rw [hp p 3 q (by omega), n3], fun i hi => by rw [hm p i q]; exact n4 i hi⟩
theorem TR_x {pg : Nat → Nat} {len : Nat} {A A' : Nat → Nat → Int32} {M : gMem} {t F G np ng : Nat} (hG : G ≤ 8) (hF : F ≤ 8) (hnp : np ≤ 6) (hng : ng ≤ 24) (h : eqX A A') (T : TR pg len A M t F G np ng) : TR pg len A' M t F G np ng := by
  obtain ⟨a1, a2, a3, a4, a5⟩ := T
  have h7 : A' 7 = A 7 := funext fun k => h 7 k (by unfold toldX told; omega)
  have hg : ∀ i k, i < ng → A' (50 + i) k = A (50 + i) k := fun i k hi => h _ _ (by unfold toldX told; omega)
  have hp : ∀ p k, p < np → k ≤ 4 → A' (74 + 2 * p) k = A (74 + 2 * p) k := fun p k hp hk => h _ _ (by unfold toldX told; omega)
  have hm : ∀ p k, p < np → A' (75 + 2 * p) k = A (75 + 2 * p) k := fun p k hp => h _ _ (by unfold toldX told; omega)
  refine ⟨a1, fun g q => ?_, fun f q => ?_, fun i q => ?_, fun p q => ?_⟩
  · rw [h (18 + 2 * g) 0 (by unfold toldX told; omega)]; exact a2 g q
  · rw [h (34 + 2 * f) 0 (by unfold toldX told; omega), h (34 + 2 * f) 2 (by unfold toldX told; omega), h (34 + 2 * f) 3 (by unfold toldX told; omega)]; exact a3 f q
  · rw [hg i 0 q, hg i 1 q, hg i 2 q, hg i 3 q]
    obtain ⟨b1, b2, b3⟩ := a4 i q
    exact ⟨b1, b2, b3.imp id fun z => ⟨z.1, SR_c h7 z.2⟩⟩
  · rw [hp p 0 q (by omega), hp p 1 q (by omega), hp p 2 q (by omega), hp p 3 q (by omega)]
    obtain ⟨b1, b2, b3, b4⟩ := a5 p q
    exact ⟨b1, b2, fun n k n8 e hk => by rw [hm p k q]; exact b3 n k n8 e hk, b4.imp id fun z => ⟨z.1, SR_c h7 z.2⟩⟩
theorem eqX_T {A A' : Nat → Nat → Int32} (h : eqT A A') : eqX A A' := fun d k z => h d k z.1
/-- new numbers in both -/
theorem STv_u {Z : Nat → Nat} {b m o o' t n kb kb' : Nat} {T : Nat → Nat} {M X : gMem} (S : STv Z b m o o' t n kb T M) (hT : ∀ a, a < mN M → mT X a = mT M a ∧ mL X a = mL M a ∧ (a ≠ o' + 6 → mR X a = mR M a)) (hI : ∀ a, a < mN M → a ≠ m → ¬ (b + 6 ≤ a ∧ a < b + 178) → ¬ (m + 24 ≤ a ∧ a < m + 58) → mI X a = mI M a) (hm : ∀ k, k ≠ 0 → mI X m k = mI M m k) (hF : FRS o X ∧ FRS o' X ∧ PSz o X ∧ PSz o' X) (hR : RELv Z kb' o m t X) (hN : mN M ≤ mN X) : STv Z b m o o' t n kb' T X := by
  obtain ⟨s0, ⟨⟨t0, r0, r1, r2⟩, oo, TPM, ⟨L1, L2, -, -, -, -⟩, cN⟩, ⟨P, ⟨m11, m13, m14⟩, ⟨LA, LB⟩, ⟨v1, v2, v3, v4⟩⟩, RL, e3⟩ := S
  have hR' : ∀ a, a < mN M → a ≠ o' + 6 → mR X a = mR M a := fun a h h' => (hT a h).2.2 h'
  refine ⟨⟨s0.1, by omega, by rw [(hT _ (by omega)).1]; exact s0.2.2.1, by rw [(hT _ (by omega)).2.1]; exact s0.2.2.2⟩, ⟨⟨(hT b (by omega)).1.trans t0, by rw [hR' b (by omega) (by omega)]; exact r0, by rw [hR' b (by omega) (by omega)]; exact r1, by rw [hR' b (by omega) (by omega)]; exact r2⟩, oo, TP_n TPM (fun j hj => ⟨(hT _ (by omega)).1, (hT _ (by omega)).2.1⟩) (hR' _ (by omega) (by omega)) (by rw [hI (b + 1) (by omega) (by omega) (by omega) (by omega)]; exact TPM.2.2.1) P.2.2.2.1 (fun q hq => by rw [hI (b + 2) (by omega) (by omega) (by omega) (by omega)]; exact TPM.2.2.2.2 q hq), ⟨LC_e L1 fun d hd => ⟨(hT _ (by omega)).1, (hT _ (by omega)).2.1, fun _ => hR' _ (by omega) (by omega)⟩, LC_e L2 fun d hd => ⟨(hT _ (by omega)).1, (hT _ (by omega)).2.1, fun z => hR' _ (by omega) (by omega)⟩, hF⟩, by omega⟩, ⟨MP_n P (fun j hj => ⟨(hT _ (by omega)).1, (hT _ (by omega)).2.1⟩) (fun k _ => by rw [hR' m (by omega) (by omega)]) (by rw [hm 2 (by decide)]; exact P.2.2.1) P.2.2.2.1 (fun q hq => by rw [hI (m + 1) (by omega) (by omega) (by omega) (by omega)]; exact P.2.2.2.2 q hq), ⟨by rw [hR' m (by omega) (by omega)]; exact m11, by rw [hR' m (by omega) (by omega)]; exact m13, by rw [hR' m (by omega) (by omega)]; exact m14⟩, ⟨LS_e2 LA (mN M) (fun c i1 i2 => ⟨(hT c i2).1, (hT c i2).2.1, fun _ => hR' c i2 (by omega)⟩) (by rw [hR' m (by omega) (by omega)]) (by omega) (by omega) (by omega) (by omega), LS_e2 LB (mN M) (fun c i1 i2 => ⟨(hT c i2).1, (hT c i2).2.1, fun _ => hR' c i2 (by omega)⟩) (by rw [hR' m (by omega) (by omega)]) (by omega) (by omega) (by omega) (by omega)⟩, v1, by omega, by omega, v4⟩, hR, ?_⟩
  rw [hm 3 (by decide), hI b (by omega) (by omega) (by omega) (by omega)]
  exact e3
/-- the relation, new -/
theorem REL_u {Z pg : Nat → Nat} {kb o m t len F G np nO : Nat} {M X : gMem} {A' st' : Nat → Nat → Int32} (h1 : len ≤ 400) (P : PG Z pg o len M (cutF 86 o M)) (W : WS (cutF 86 o M) F G np nO) (TRr : TR pg len (cutF 86 o M) M t F G np nO) (hE : eqX (cutF 86 o M) A') (hA : ∀ d, d < 86 → mI X (o + d) = A' d) (hst : ∀ d, d < 17 → mI X (m + 24 + d) = st' d) (h6 : mR X (o + 6) = mR M (o + 6)) (ht : ∀ j, j < 17 → mI X (t + j) = mI M (t + j)) (D : WD A' F G) (R : RS A' st' F G np) (V : SVa kb A' F G) : RELv Z kb o m t X := by
  have hF : F ≤ 8 := W.2.2.2.1
  have hG : G ≤ 8 := W.2.1
  have hp6 : np ≤ 6 := W.2.2.2.2.1.2.1
  have hn : nO ≤ 24 := W.2.2.2.2.2.1.2.1
  have cA : ∀ d, d < 86 → cutF 86 o X d = A' d := fun d hd => by rw [cutF_e hd, hA d hd]
  have cS : ∀ d, d < 17 → cutF 17 (m + 24) X d = st' d := fun d hd => by rw [cutF_e hd, hst d hd]
  have hA1 : ∀ d, 1 ≤ d → d < 86 → cutF 86 o X d = A' d := fun d _ hd => cA d hd
  have hE' : eqX (cutF 86 o M) (cutF 86 o X) := fun d k z => by
    by_cases hd : d < 86
    · rw [cA d hd]; exact hE d k z
    · unfold cutF; rw [if_neg hd, if_neg hd]
  have W' := WS_x hE' W
  have T' := TR_x hG hF hp6 hn hE' TRr
  have P' : PG Z pg o len M (cutF 86 o X) := PG_congr P (funext fun k => hE' 7 k (by unfold toldX told; omega)) (funext fun k => hE' 5 k (by unfold toldX told; omega))
  exact ⟨pg, len, F, G, np, nO, h1, PG_cg (fun d _ _ => rfl) h6 P', W', WD_cg hA1 hF hG D, TR_cg (fun d _ _ => rfl) hF hG hp6 hn ht T', RS_cg hA1 (cA 0 (by omega)) hF hG hp6 cS R, SVa_cg (fun d i1 i2 => cA d (by omega)) hF hG V⟩

