/-! ## Pure: empty on both sides -/
/-- the first of the numbers k, k + 1 .. (r of them) at which there is nothing -/
def emV (fz : Nat → Int32) : Nat → Nat → Int32
  | 0, _ => -1
  | r + 1, k => if fz k = 0 then nI k else emV fz r (k + 1)
theorem OFr_t {pg : Nat → Nat} {o' len F G np ng n : Nat} {M X1 : gMem} {A' : Nat → Nat → Int32} (O : OFr o' M X1) (W : WS (cutF 86 o' X1) F G np ng) (D : WD (cutF 86 o' X1) F G) (h : nz A' = tidesA pg len np ng F G (nz (cutF 86 o' X1)) n) : OFr o' M (sC o' A' X1) := by
  have W0 : WS (nz (cutF 86 o' X1)) F G np ng := WS_c (eqT_nz _) W
  have D0 : WD (nz (cutF 86 o' X1)) F G := WD_nz.mpr D
  have hA' : ∀ d, (d < 8 ∨ 11 < d) → A' d = tidesA pg len np ng F G (nz (cutF 86 o' X1)) n d := fun d hd => by rw [← h, nz_e hd]
  obtain ⟨tw1, tw2⟩ := tides_W (pg := pg) (len := len) W0 D0 n
  refine ⟨O.1, O.2.1, O.2.2.1, O.2.2.2.1, O.2.2.2.2.1, fun a ha => ?_, fun q hq => ?_⟩
  · rw [← O.2.2.2.2.2.1 a ha]
    by_cases z : a < o' ∨ o' + 86 ≤ a
    · funext k
      exact sC_Io z
    · obtain ⟨d, rfl⟩ : ∃ d, a = o' + d := ⟨a - o', by omega⟩
      funext k
      rw [sC_I (by omega), hA' d (by omega), tides_o W0 D0 (by omega) n, nz_e (by omega), cutF_e (by omega)]
  · obtain ⟨c, z1, z2⟩ := O.2.2.2.2.2.2 q hq
    refine ⟨c, z1, ?_⟩
    rw [sC_I (by omega), hA' _ (by omega), tw1 _ 3 (by unfold told; omega), nz_e (by omega), cutF_e (by omega)]
    exact z2
theorem gcell {α : Type} {X : gMem} {o f : Nat} {k : Nat → Nat → Option α} (L : LC o X) (hf : f < 8) : (ck (mT X o = 7) <| dr (mR X o 6) fun a => ck (mT X a = 23) <| ck (inb (nI f) (mL X a)) <| dr (mR X a (nI f).toNatClampNeg) fun c => ck (mT X c = 3) <| k a c) = k (o + 1) (o + (18 + 2 * f)) := by
  rw [ck_t (lTo L), dr_s (lR0_6 L), ck_t (lT_1 L), ck_t (show inb (nI f) (mL X (o + 1)) by rw [lL_1 L]; exact (inbN (by omega)).mpr hf), dr_s (show mR X (o + 1) (nI f).toNatClampNeg = some (o + (18 + 2 * f)) by rw [nI_clamp (by omega)]; exact lRrg L hf), ck_t (lTg L hf)]
theorem c_empty {Z pg : Nat → Nat} {o' len F G np ng g : Nat} {M X1 : gMem} (L' : LC o' M) (O : OFr o' M X1) (P : PG Z pg o' len X1 (cutF 86 o' X1)) (W : WS (cutF 86 o' X1) F G np ng) (D : WD (cutF 86 o' X1) F G) (hg : g < 8) : ∀ r k A', k + r = 101 → nz A' = tidesA pg len np ng F G (nz (cutF 86 o' X1)) (k - 1) → ∃ X2, OFr o' M X2 ∧ lp_X11_empty_12 Z (sC o' A' X1) (nI g) (some o') (nI k) = some (.inr (emV (fun j => sum5 (tidesA pg len np ng F G (nz (cutF 86 o' X1)) j (19 + 2 * g)) 5) r k), X2)
  | 0, k, A', hk, hA => by
    refine ⟨_, OFr_t O W D hA, ?_⟩
    have e : k = 101 := by omega
    subst e
    unfold lp_X11_empty_12
    refine lp_out ?_
    show bb_X11_empty_12 Z (sC o' A' X1) (nI g) (some o') (nI 101) = _
    unfold bb_X11_empty_12
    rw [if_pos (by decide)]
    rfl
  | r + 1, k, A', hk, hA => by
    have LX : LC o' X1 := OFr_LC O L' (fun z => absurd rfl z)
    have q1 : ¬ (100 : Int32) < nI k := fun z => by have := (nI_ltI (a := 100) (by omega) (by omega)).mp z; omega
    have W0 : WS (nz (cutF 86 o' X1)) F G np ng := WS_c (eqT_nz _) W
    have D0 : WD (nz (cutF 86 o' X1)) F G := WD_nz.mpr D
    -- behind the tide
    have step : ∃ A2, nz A2 = tidesA pg len np ng F G (nz (cutF 86 o' X1)) k ∧ bb_X11_empty_12 Z (sC o' A' X1) (nI g) (some o') (nI k) = b_X11_empty_28 Z (sC o' A2 X1) (nI g) (some o') (nI k) := by
      by_cases q2 : k = 0
      · subst q2
        refine ⟨A', hA, ?_⟩
        unfold bb_X11_empty_12
        rw [if_neg q1, if_pos (by decide)]
      · have q3 : ¬ nI k ≤ 0 := fun z => by have := (nI_leI (b := 0) (by omega) (by omega)).mp z; omega
        obtain ⟨tw1, tw2⟩ := tides_W (pg := pg) (len := len) W0 D0 (k - 1)
        rw [← hA] at tw1 tw2
        have eT : eqT (cutF 86 o' X1) A' := eqT_of tw1
        obtain ⟨A2, y1, y2⟩ := s7_passTides (n := 1) LX (⟨PG_T P eT, WS_c eT W, WD_nz.mp tw2⟩ : WW Z pg o' len X1 F G np ng A') (by omega)
        refine ⟨A2, ?_, ?_⟩
        · rw [y2, hA, show k = k - 1 + 1 by omega]
          rfl
        · unfold bb_X11_empty_12
          rw [if_neg q1, if_neg q3, dr_S, ck_t (show mT (sC o' A' X1) o' = 7 from lTo LX), show f_X7_passTides Z (sC o' A' X1) o' 1 = _ from y1]
          rfl
    obtain ⟨A2, hA2, e1⟩ := step
    have fs : f_X3_allFish (sC o' A2 X1) (o' + (18 + 2 * g)) = some (sum5 (tidesA pg len np ng F G (nz (cutF 86 o' X1)) k (19 + 2 * g)) 5, sC o' A2 X1) := by
      rw [s_allFish (af := o' + (19 + 2 * g)) (lTg (M := sC o' A2 X1) LX hg) (lRg (M := sC o' A2 X1) LX hg) (lTgf (M := sC o' A2 X1) LX hg) (lLgf (M := sC o' A2 X1) LX hg)]
      have : mI (sC o' A2 X1) (o' + (19 + 2 * g)) = tidesA pg len np ng F G (nz (cutF 86 o' X1)) k (19 + 2 * g) := by
        funext i
        rw [sC_I (by omega), ← hA2, nz_e (by omega)]
      rw [this]
    have e2 : b_X11_empty_28 Z (sC o' A2 X1) (nI g) (some o') (nI k) = if sum5 (tidesA pg len np ng F G (nz (cutF 86 o' X1)) k (19 + 2 * g)) 5 = 0 then some (.inr (.inr (nI k), sC o' A2 X1)) else some (.inl (sC o' A2 X1, nI (k + 1))) := by
      unfold b_X11_empty_28
      rw [dr_S, gcell (X := sC o' A2 X1) LX hg, bd_s fs, nI_1]
      rfl
    rw [e2] at e1
    by_cases w : sum5 (tidesA pg len np ng F G (nz (cutF 86 o' X1)) k (19 + 2 * g)) 5 = 0
    · rw [if_pos w] at e1
      refine ⟨_, OFr_t O W D hA2, ?_⟩
      rw [emV, if_pos w]
      exact lp_out (f := fun (q : gMem × Int32) => bb_X11_empty_12 Z q.1 (nI g) (some o') q.2) e1
    · rw [if_neg w] at e1
      obtain ⟨X2, O2, e3⟩ := c_empty L' O P W D hg r (k + 1) A2 (by omega) hA2
      refine ⟨X2, O2, ?_⟩
      rw [emV, if_neg w, ← e3]
      exact lp_in (f := fun (q : gMem × Int32) => bb_X11_empty_12 Z q.1 (nI g) (some o') q.2) e1
