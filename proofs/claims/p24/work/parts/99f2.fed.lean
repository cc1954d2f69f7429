/-! ## Pure: the law teaches its text -/
theorem CIv_g {b o o' n n' : Nat} {T T' : Nat → Nat} {M X : gMem} (C : CIv b o o' n T M) (hT : ∀ a, a < b + 178 → mT X a = mT M a ∧ mL X a = mL M a ∧ mR X a = mR M a) (hI : ∀ a, b + 6 ≤ a → a < b + 178 → mI X a = mI M a) (hn : mI X (b + 1) 0 = nI n') (h2 : n' ≤ 2000) (hq : ∀ q, q < n' → mI X (b + 2) q = sB (T' q) ∧ T' q < 256) (hN : mN M ≤ mN X) : CIv b o o' n' T' X := by
  obtain ⟨⟨t0, r0, r1, r2⟩, oo, ⟨⟨a0, a1, a2, a3, a4, a5, a6, a7, a8⟩, ⟨b1, b4, b5, b6⟩, c, d, e⟩, ⟨L1, L2, F1, F2, P1, P2⟩, cN⟩ := C
  have tb := fun j (hj : j < 178) => hT (b + j) (by omega)
  have hb := hT b (by omega)
  have h1 := tb 1 (by omega)
  refine ⟨⟨hb.1.trans t0, by rw [hb.2.2]; exact r0, by rw [hb.2.2]; exact r1, by rw [hb.2.2]; exact r2⟩, oo, ⟨⟨h1.1.trans a0, (tb 2 (by omega)).1.trans a1, (tb 2 (by omega)).2.1.trans a2, (tb 3 (by omega)).1.trans a3, (tb 3 (by omega)).2.1.trans a4, (tb 4 (by omega)).1.trans a5, (tb 4 (by omega)).2.1.trans a6, (tb 5 (by omega)).1.trans a7, (tb 5 (by omega)).2.1.trans a8⟩, ⟨by rw [h1.2.2]; exact b1, by rw [h1.2.2]; exact b4, by rw [h1.2.2]; exact b5, by rw [h1.2.2]; exact b6⟩, hn, h2, hq⟩, ⟨LC_e L1 (fun d hd => ?_), LC_e L2 (fun d hd => ?_), FRS_e F1 (fun d i1 i2 => hI _ (by omega) (by omega)), FRS_e F2 (fun d i1 i2 => hI _ (by omega) (by omega)), PSz_e P1 (fun d i1 i2 => hI _ (by omega) (by omega)), PSz_e P2 (fun d i1 i2 => hI _ (by omega) (by omega))⟩, by omega⟩
  · obtain ⟨x, y, z⟩ := hT (o + d) (by omega); exact ⟨x, y, fun _ => z⟩
  · obtain ⟨x, y, z⟩ := hT (o' + d) (by omega); exact ⟨x, y, fun _ => z⟩
theorem c_feed {b o o' n : Nat} {T : Nat → Nat} {M : gMem} {ws : Nat → Int32} (C : CIv b o o' n T M) (c : n + 20 ≤ 2000) (hT : ∀ i k, i < 5 → k < 4 → T (n + 4 * i + k) = byN (ws i) (24 - 8 * k)) : f_X11_feed M b (ws 0) (ws 1) (ws 2) (ws 3) (ws 4) = some (.inr (nI (n + 20)), fdC (b + 1) n T M 20) := by
  obtain ⟨⟨t0, r0, r1, r2⟩, oo, TPM, -, cN⟩ := C
  have cn : mI M (b + 1) 0 = nI n := TPM.2.2.1
  have t9 : mT M (b + 1) = 9 := TPM.1.1
  have tr : mR M (b + 1) 1 = some (b + 1 + 1) := TPM.2.1.1
  have t22 : mT M (b + 1 + 1) = 22 := TPM.1.2.1
  have l22 : mL M (b + 1 + 1) = 2000 := TPM.1.2.2.1
  have e20 : mI M (b + 1) 0 + (20 : Int32) = nI (n + 20) := by rw [cn, show (20 : Int32) = nI 20 from rfl, nI_add]
  have q1 : nI (n + 20) ≤ (2000 : Int32) := nI_le (b := 2000) c (by omega)
  have fc := fdC_f (p := b + 1) (n := n) (T := T) (M := M) cn
  have kT : ∀ j, mT (fdC (b + 1) n T M j) = mT M := fun j => (fc j).1.1
  have kR : ∀ j, mR (fdC (b + 1) n T M j) = mR M := fun j => (fc j).1.2.2.1
  have a0 := ap_all (j := 0) (w := ws 0) (T := T) t9 tr t22 l22 cn (by omega) (fun k hk => hT 0 k (by omega) hk)
  have a1 := ap_all (j := 4) (w := ws 1) (T := T) t9 tr t22 l22 cn (by omega) (fun k hk => hT 1 k (by omega) hk)
  have a2 := ap_all (j := 8) (w := ws 2) (T := T) t9 tr t22 l22 cn (by omega) (fun k hk => hT 2 k (by omega) hk)
  have a3 := ap_all (j := 12) (w := ws 3) (T := T) t9 tr t22 l22 cn (by omega) (fun k hk => hT 3 k (by omega) hk)
  have a4 := ap_all (j := 16) (w := ws 4) (T := T) t9 tr t22 l22 cn (by omega) (fun k hk => hT 4 k (by omega) hk)
  have b10 : ∀ j, mT (fdC (b + 1) n T M j) b = 10 := fun j => by rw [kT]; exact t0
  have b9 : ∀ j, mT (fdC (b + 1) n T M j) (b + 1) = 9 := fun j => by rw [kT]; exact t9
  have br : ∀ j, mR (fdC (b + 1) n T M j) b 0 = some (b + 1) := fun j => by rw [kR]; exact r0
  unfold f_X11_feed b_X11_feed_0
  rw [ck_t t0, dr_s r0, ck_t t9, e20, if_pos q1, bd_s (show f_X10_append M (b + 1) (ws 0) = some ((), fdC (b + 1) n T M 4) from a0), ck_t (b10 4), dr_s (br 4), ck_t (b9 4), bd_s a1, ck_t (b10 (4 + 4)), dr_s (br (4 + 4)), ck_t (b9 (4 + 4)), bd_s (show f_X10_append (fdC (b + 1) n T M (4 + 4)) (b + 1) (ws 2) = _ from a2), ck_t (b10 (8 + 4)), dr_s (br (8 + 4)), ck_t (b9 (8 + 4)), bd_s (show f_X10_append (fdC (b + 1) n T M (8 + 4)) (b + 1) (ws 3) = _ from a3), ck_t (b10 (12 + 4)), dr_s (br (12 + 4)), ck_t (b9 (12 + 4)), bd_s (show f_X10_append (fdC (b + 1) n T M (12 + 4)) (b + 1) (ws 4) = _ from a4), ck_t (b10 (16 + 4)), dr_s (br (16 + 4)), ck_t (b9 (16 + 4)), (fc (16 + 4)).2.1]
theorem c_fed {b o o' n : Nat} {T : Nat → Nat} {M : gMem} (C : CIv b o o' n T M) (c : n + 20 ≤ 2000) (h256 : ∀ q, T q < 256) : CIv b o o' (n + 20) T (fdC (b + 1) n T M 20) ∧ mT (fdC (b + 1) n T M 20) = mT M ∧ mL (fdC (b + 1) n T M 20) = mL M ∧ mR (fdC (b + 1) n T M 20) = mR M ∧ mN (fdC (b + 1) n T M 20) = mN M ∧ (∀ a, a ≠ b + 1 → a ≠ b + 2 → mI (fdC (b + 1) n T M 20) a = mI M a) := by
  have TPM := C.2.2.1
  obtain ⟨⟨f1, f2, f3, f4⟩, f5, f6, f7⟩ := fdC_f (p := b + 1) (n := n) (T := T) (M := M) TPM.2.2.1 20
  refine ⟨CIv_g C (fun a _ => ⟨by rw [f1], by rw [f2], by rw [f3]⟩) (fun a h1 h2 => f6 a (by omega) (by omega)) f5 c (fun q hq => ⟨?_, h256 q⟩) (by rw [f4]; exact Nat.le_refl _), f1, f2, f3, f4, fun a h1 h2 => f6 a h1 h2⟩
  have := f7 q
  by_cases z : n ≤ q
  · rw [if_pos ⟨z, hq⟩] at this; exact this
  · rw [if_neg (by omega)] at this
    exact this.trans (TPM.2.2.2.2 q (by omega)).1
theorem fdC_J {p n : Nat} {T : Nat → Nat} {M : gMem} : ∀ j, mJ (fdC p n T M j) = mJ M
  | 0 => rfl
  | j + 1 => fdC_J j
theorem c_trimN {b o o' n k : Nat} {T : Nat → Nat} {M : gMem} (C : CIv b o o' n T M) (hk : k ≤ n) : f_X11_trim M b (nI k) = some (.inr (nI k), wI M (b + 1) 0 (nI k)) ∧ CIv b o o' k T (wI M (b + 1) 0 (nI k)) := by
  obtain ⟨⟨t0, r0, r1, r2⟩, oo, TPM, -, cN⟩ := id C
  have cn : mI M (b + 1) 0 = nI n := TPM.2.2.1
  have t9 : mT M (b + 1) = 9 := TPM.1.1
  have n2 : n ≤ 2000 := TPM.2.2.2.1
  refine ⟨?_, CIv_g C (fun a _ => ⟨rfl, rfl, rfl⟩) (fun a h1 h2 => funext fun k => wI_o (.inl (by omega))) (wI_e _ _ _ _) (by omega) (fun q hq => ?_) (Nat.le_refl _)⟩
  · unfold f_X11_trim b_X11_trim_0 b_X11_trim_15
    rw [if_neg (nI_pos (by omega)), ck_t t0, dr_s r0, ck_t t9, cn, if_pos ((nI_leI (by omega) (by omega)).mpr hk), lw_S]
  · obtain ⟨h1, h2⟩ := TPM.2.2.2.2 q (by omega)
    exact ⟨by rw [wI_o (.inl (by omega))]; exact h1, h2⟩
/-- five ints, k bytes in -/
def FV (M : gMem) (v : Nat) (T : Nat → Nat) (n k : Nat) : Prop := ∀ i e, i < 5 → e < 4 → 4 * i + e < k → byN (mI M v i) (8 * (min 4 (k - 4 * i) - 1 - e)) = T (n + 4 * i + e)
theorem FV_s {M : gMem} {v n k : Nat} {T : Nat → Nat} (h : FV M v T n k) (hk : k < 20) (hc : T (n + k) < 256) : FV (wI M v (k / 4) ((mI M v (k / 4) <<< ((8 : Int32) &&& 31)) ||| nI (T (n + k)))) v T n (k + 1) := by
  obtain ⟨b0, b8, b16, b24⟩ := by_0 (w := mI M v (k / 4)) hc
  intro i e hi he hik
  by_cases z : i = k / 4
  · subst z
    rw [wI_e]
    by_cases y : e = k % 4
    · rw [show 8 * (min 4 (k + 1 - 4 * (k / 4)) - 1 - e) = 0 by omega, b0, show n + k = n + 4 * (k / 4) + e by omega]
    · have hh := h (k / 4) e hi he (by omega)
      rcases (show k % 4 - e = 1 ∨ k % 4 - e = 2 ∨ k % 4 - e = 3 by omega) with w | w | w
      · rw [show 8 * (min 4 (k + 1 - 4 * (k / 4)) - 1 - e) = 8 by omega, b8]
        rw [show 8 * (min 4 (k - 4 * (k / 4)) - 1 - e) = 0 by omega] at hh; exact hh
      · rw [show 8 * (min 4 (k + 1 - 4 * (k / 4)) - 1 - e) = 16 by omega, b16]
        rw [show 8 * (min 4 (k - 4 * (k / 4)) - 1 - e) = 8 by omega] at hh; exact hh
      · rw [show 8 * (min 4 (k + 1 - 4 * (k / 4)) - 1 - e) = 24 by omega, b24]
        rw [show 8 * (min 4 (k - 4 * (k / 4)) - 1 - e) = 16 by omega] at hh; exact hh
  · rw [wI_o (.inr z), show min 4 (k + 1 - 4 * i) = min 4 (k - 4 * i) by omega]
    exact h i e hi he (by omega)
theorem dv_4 : ∀ k, k < 20 → nI k / (4 : Int32) = nI (k / 4) := by decide +kernel
