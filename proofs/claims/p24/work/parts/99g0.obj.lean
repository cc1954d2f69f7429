/-! ## Pure: the object between the law's questions -/
theorem gv_nz {A : Nat → Nat → Int32} : gvA (nz A) = gvA A := by
  funext g c
  unfold gvA
  rw [nz_e (show 19 + 2 * g < 8 ∨ 11 < 19 + 2 * g by omega), nz_e (show 18 + 2 * g < 8 ∨ 11 < 18 + 2 * g by omega)]
theorem fv_nz {A : Nat → Nat → Int32} : fvA (nz A) = fvA A := by
  funext f c
  unfold fvA
  rw [nz_e (show 34 + 2 * f < 8 ∨ 11 < 34 + 2 * f by omega)]
theorem pv_nz {A : Nat → Nat → Int32} : pvA (nz A) = pvA A := by
  funext p c
  unfold pvA
  rw [nz_e (show 74 + 2 * p < 8 ∨ 11 < 74 + 2 * p by omega), nz_e (show 75 + 2 * p < 8 ∨ 11 < 75 + 2 * p by omega)]
theorem cv_nz {A : Nat → Nat → Int32} {F G n : Nat} : cvA (nz A) F G n = cvA A F G n := by
  funext c
  have h19 : ∀ i, nz A (19 + 2 * i) = A (19 + 2 * i) := fun i => nz_e (by omega)
  have h34 : ∀ i, nz A (34 + 2 * i) = A (34 + 2 * i) := fun i => nz_e (by omega)
  have h0 : nz A 0 = A 0 := nz_e (by omega)
  unfold cvA
  simp only [h19, h34, h0]
theorem dg_nz {A : Nat → Nat → Int32} {F G np n : Nat} : dgV (nz A) F G np n = dgV A F G np n := by
  have h35 : ∀ i, nz A (35 + 2 * i) = A (35 + 2 * i) := fun i => nz_e (by omega)
  have h0 : nz A 0 = A 0 := nz_e (by omega)
  have hG : dgG (nz A) F = dgG A F := by
    funext g d
    unfold dgG
    rw [gv_nz]
    simp only [h35]
  unfold dgV
  rw [pv_nz, fv_nz, cv_nz, hG, h0]
theorem gp_nz {A : Nat → Nat → Int32} {F : Nat} : gapV (nz A) F = gapV A F := by
  have h34 : ∀ i, nz A (34 + 2 * i) = A (34 + 2 * i) := fun i => nz_e (by omega)
  cases F with
  | zero => rfl
  | succ n =>
    unfold gapV
    simp only [h34]
section OBJ
variable {Z pg : Nat → Nat} {b o o' kb len F G np ng : Nat} {T : Nat → Nat} {M : gMem} {B : Nat → Nat → Int32}
def OB (Z pg : Nat → Nat) (b o o' kb len F G np ng : Nat) (T : Nat → Nat) (B : Nat → Nat → Int32) (M : gMem) : Prop := PSt Z pg b o o' 0 kb len F G np ng T M ∧ nz (cutF 86 o M) = B
theorem ob_W (S : OB Z pg b o o' kb len F G np ng T B M) : WS B F G np ng ∧ WD B F G ∧ SVa kb B F G := by
  obtain ⟨S, e⟩ := S
  obtain ⟨-, -, ⟨W, D, V⟩, -, -⟩ := S
  subst e
  exact ⟨WS_c (eqT_nz _) W, WD_nz.mpr D, SVa_cg (fun d h1 h2 => nz_e (by omega)) W.2.2.2.1 W.2.1 V⟩
theorem ob_ground (S : OB Z pg b o o' kb len F G np ng T B M) {g c : Nat} (hg : g < G) (hc : c < 9) : f_X11_ground M b (nI g) (nI c) = some (.inr (gvA B g c), M) := by
  rw [← S.2, gv_nz]; exact p_ground S.1 hg hc
theorem ob_fisher (S : OB Z pg b o o' kb len F G np ng T B M) {f c : Nat} (hf : f < F) (hc : c < 10) : f_X11_fisher M b (nI f) (nI c) = some (.inr (fvA B f c), M) := by
  rw [← S.2, fv_nz]; exact p_fisher S.1 hf hc
theorem ob_pact (S : OB Z pg b o o' kb len F G np ng T B M) {p c : Nat} (hp : p < np) (hc : c < 7) : f_X11_pact M b (nI p) (nI c) = some (.inr (pvA B p c), M) := by
  rw [← S.2, pv_nz]; exact p_pact S.1 hp hc
theorem ob_count (S : OB Z pg b o o' kb len F G np ng T B M) {c : Nat} (hc : c < 10) : f_X11_count M b (nI c) = some (.inr (cvA B F G 0 c), M) := by
  rw [← S.2, cv_nz]; exact p_count S.1 hc
theorem ob_took (S : OB Z pg b o o' kb len F G np ng T B M) {g f : Nat} (hg : g < G) (hf : f < F) : f_X11_took M b (nI g) (nI f) = some (.inr (B (35 + 2 * f) g), M) := by
  rw [← S.2, nz_e (show 35 + 2 * f < 8 ∨ 11 < 35 + 2 * f by omega)]; exact p_took S.1 hg hf
theorem ob_blame (S : OB Z pg b o o' kb len F G np ng T B M) {g : Nat} (hg : g < G) : ∃ v, f_X11_blame M b (nI g) = some (.inr v, M) ∧ (v = -1 ∨ ∃ i, i < F ∧ v = nI i) := p_blame S.1 hg
theorem ob_gap (S : OB Z pg b o o' kb len F G np ng T B M) : f_X11_gap M b = some (gapV B F, M) := by
  rw [← S.2, gp_nz]; exact p_gap S.1
theorem ob_lot (S : OB Z pg b o o' kb len F G np ng T B M) {f : Nat} (hf : f < F) : ∃ X, f_X11_lot M b (nI f) = some (.inr (nI (ltA F (B 0 1) f)), X) ∧ OB Z pg b o o' kb len F G np ng T B X ∧ CFr b M X := by
  obtain ⟨X, h1, h2, h3, h4⟩ := p_lot S.1 hf
  refine ⟨X, ?_, ⟨h2, h4.trans S.2⟩, h3⟩
  rw [← S.2, nz_e (show 0 < 8 ∨ 11 < 0 by omega)]; exact h1
theorem ob_digest (S : OB Z pg b o o' kb len F G np ng T B M) : ∃ X, f_X11_digest M b = some (dgV B F G np 0, X) ∧ OB Z pg b o o' kb len F G np ng T B X ∧ CFr b M X := by
  obtain ⟨X, h1, h2, h3, h4⟩ := p_digest S.1
  refine ⟨X, ?_, ⟨h2, h4.trans S.2⟩, h3⟩
  rw [← S.2, dg_nz]; exact h1
theorem ob_o (S : OB Z pg b o o' kb len F G np ng T B M) {X : gMem} (O : OFr o' M X) : OB Z pg b o o' kb len F G np ng T B X ∧ CFr b M X := by
  obtain ⟨h1, h2, h3⟩ := PS_o S.1 O
  exact ⟨⟨h1, by rw [h2]; exact S.2⟩, h3⟩
theorem ob_foresee (S : OB Z pg b o o' kb len F G np ng T B M) {c : Nat} (hc : c < 3) : ∃ X, f_X11_foresee Z M b (nI 1) (nI c) = some (.inr (frV (tideA pg len np ng F G B) F G c), X) ∧ OB Z pg b o o' kb len F G np ng T B X ∧ CFr b M X := by
  obtain ⟨X, h1, h2⟩ := p_foresee S.1 hc
  rw [S.2] at h1
  exact ⟨X, h1, ob_o S h2⟩
theorem ob_pays (S : OB Z pg b o o' kb len F G np ng T B M) {f : Nat} (hf : f < F) : ∃ r X, f_X11_pays Z M b (nI f) (nI 1) = some (.inr r, X) ∧ OB Z pg b o o' kb len F G np ng T B X ∧ CFr b M X ∧ (np = 0 → (∀ i, i < len → ¬ gSw (pg i) = 7) → r = 0) := by
  obtain ⟨r, X, h1, h2, h3⟩ := p_pays S.1 hf
  exact ⟨r, X, h1, (ob_o S h2).1, (ob_o S h2).2, h3⟩
theorem ob_advise (S : OB Z pg b o o' kb len F G np ng T B M) {f k : Nat} (hf : f < F) (hk1 : 1 ≤ k) (hk : k ≤ 40) : ∃ e X, f_X11_advise Z M b (nI f) (nI k) = some (.inr (nI e), X) ∧ OB Z pg b o o' kb len F G np ng T B X ∧ CFr b M X ∧ 1 ≤ e ∧ e ≤ 5 := by
  obtain ⟨e, X, h1, h2, h3⟩ := p_advise S.1 hf hk1 hk
  exact ⟨e, X, h1, (ob_o S h2).1, (ob_o S h2).2, h3⟩
theorem ob_empty (S : OB Z pg b o o' kb len F G np ng T B M) {g : Nat} (hg : g < G) : ∃ X, f_X11_empty Z M b (nI g) = some (.inr (emV (fun j => sum5 (tidesA pg len np ng F G B j (19 + 2 * g)) 5) 101 0), X) ∧ OB Z pg b o o' kb len F G np ng T B X ∧ CFr b M X := by
  obtain ⟨X, h1, h2⟩ := p_empty S.1 hg
  rw [S.2] at h1
  exact ⟨X, h1, ob_o S h2⟩
theorem ob_pass (S : OB Z pg b o o' kb len F G np ng T B M) : ∃ X B', f_X11_pass Z M b (nI 1) = some (.inr (incA pg len np ng F G B 1), X) ∧ OB Z pg b o o' (kb + 792) len F G np ng T B' X ∧ CFr b M X ∧ ∀ d, d < 86 → (d < 8 ∨ 11 < d) → B' d = tideA pg len np ng F G B d := by
  obtain ⟨X, h1, h2, h3, h4⟩ := p_pass S.1
  rw [S.2] at h1 h4
  exact ⟨X, _, h1, ⟨h2, rfl⟩, h3, fun d hd hd2 => by rw [nz_e hd2]; exact h4 d hd hd2⟩
theorem ob_cheat (S : OB Z pg b o o' kb len F G np ng T B M) {f : Nat} {y : Int32} (hf : f < F) (hy : y = 0 ∨ y = 1) : ∃ X B', f_X11_cheat M b (nI f) y = some (.inr (sumN (fun i => if B' (34 + 2 * i) 9 = nI 0 then (0 : Int32) else 1) F), X) ∧ OB Z pg b o o' kb len F G np ng T B' X ∧ CFr b M X ∧ (∀ d, d < 86 → B' d = up2 B (34 + 2 * f) 9 y d) := by
  obtain ⟨X, h1, h2, h3, h4⟩ := p_cheat S.1 hf hy
  have hF8 : F ≤ 8 := (ob_W S).1.2.2.2.1
  have e : ∀ d, d < 86 → nz (cutF 86 o X) d = up2 B (34 + 2 * f) 9 y d := fun d hd => by
    by_cases z : d < 8 ∨ 11 < d
    · rw [nz_e z, h4 d hd, ← S.2, ← nz_up2 (by omega), nz_e z]
    · rw [nz_t (by omega), up2_d (by omega), ← S.2, nz_t (by omega)]
  refine ⟨X, nz (cutF 86 o X), ?_, ⟨h2, rfl⟩, h3, e⟩
  rw [h1]
  congr 3
  refine sumN_c F fun i hi => ?_
  rw [e _ (by omega), ← S.2, ← nz_up2 (by omega), nz_e (by omega)]
theorem ob_fr (S : OB Z pg b o o' kb len F G np ng T B M) {X : gMem} (h : ∀ a, a < b + 178 → mT X a = mT M a ∧ mL X a = mL M a ∧ mI X a = mI M a ∧ mR X a = mR M a) (hN : mN M ≤ mN X) : OB Z pg b o o' kb len F G np ng T B X := by
  obtain ⟨h1, h2⟩ := PS_fr S.1 h hN
  exact ⟨h1, by rw [h2]; exact S.2⟩
end OBJ
