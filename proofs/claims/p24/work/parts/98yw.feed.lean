/-! ## Pure: feed -/
def fdC (p n : Nat) (T : Nat → Nat) (M : gMem) : Nat → gMem
  | 0 => M
  | j + 1 => wI (wI (fdC p n T M j) (p + 1) (n + j) (sB (T (n + j)))) p 0 (nI (n + j + 1))
theorem fdC_f {p n : Nat} {T : Nat → Nat} {M : gMem} (h0 : mI M p 0 = nI n) : ∀ j, (mT (fdC p n T M j) = mT M ∧ mL (fdC p n T M j) = mL M ∧ mR (fdC p n T M j) = mR M ∧ mN (fdC p n T M j) = mN M) ∧ mI (fdC p n T M j) p 0 = nI (n + j) ∧ (∀ a, a ≠ p → a ≠ p + 1 → mI (fdC p n T M j) a = mI M a) ∧ ∀ q, mI (fdC p n T M j) (p + 1) q = if n ≤ q ∧ q < n + j then sB (T q) else mI M (p + 1) q
  | 0 => ⟨⟨rfl, rfl, rfl, rfl⟩, h0, fun _ _ _ => rfl, fun q => by rw [if_neg (by omega)]; rfl⟩
  | j + 1 => by
    obtain ⟨h1, h2, h3, h4⟩ := fdC_f (T := T) h0 j
    refine ⟨h1, wI_e _ _ _ _, fun a i1 i2 => ?_, fun q => ?_⟩
    · rw [← h3 a i1 i2]
      funext k
      show mI (wI (wI _ (p + 1) _ _) p 0 _) a k = _
      rw [wI_o (.inl i1), wI_o (.inl i2)]
    · show mI (wI (wI _ (p + 1) _ _) p 0 _) (p + 1) q = _
      rw [wI_o (.inl (by omega))]
      by_cases e : q = n + j
      · subst e
        rw [wI_e, if_pos (by omega)]
      · rw [wI_o (.inr e), h4 q]
        by_cases c : n ≤ q ∧ q < n + j
        · rw [if_pos c, if_pos (by omega)]
        · rw [if_neg c, if_neg (by omega)]
theorem ap_step {p n j s : Nat} {T : Nat → Nat} {M : gMem} {w : Int32} (t9 : mT M p = 9) (r1 : mR M p 1 = some (p + 1)) (t22 : mT M (p + 1) = 22) (l : mL M (p + 1) = 2000) (h0 : mI M p 0 = nI n) (hj : n + j < 2000) (hs : s = 0 ∨ s = 8 ∨ s = 16 ∨ s = 24) (hT : T (n + j) = byN w s) : bb_X10_append_3 (fdC p n T M j) p w (nI s) = some (.inl (fdC p n T M (j + 1), nI s + (-8 : Int32))) := by
  obtain ⟨⟨f1, f2, f3, f4⟩, f5, -, -⟩ := fdC_f (T := T) h0 j
  have q0 : ¬ nI s < 0 := fun z => absurd ((nI_ltI (a := s) (b := 0) (by omega) (by omega)).mp z) (by omega)
  have q1 : ¬ nI 2000 ≤ nI (n + j) := fun z => by have := (nI_leI (by omega) (by omega)).mp z; omega
  unfold bb_X10_append_3 b_X10_append_42
  rw [if_neg q0, f1, ck_t t9, f3, dr_s r1, ck_t t22, f2, l, f5, if_neg (show ¬ Int32.ofNat 2000 ≤ nI (n + j) from q1), ck_t (show inb (nI (n + j)) 2000 from (inbN (by omega)).mpr hj), cl_byte hs, nI_clamp (by omega), lw_S, wI_o (.inl (by omega)), f5, nI_1, lw_S, ← hT]
  rfl
theorem ap_all {p n j : Nat} {T : Nat → Nat} {M : gMem} {w : Int32} (t9 : mT M p = 9) (r1 : mR M p 1 = some (p + 1)) (t22 : mT M (p + 1) = 22) (l : mL M (p + 1) = 2000) (h0 : mI M p 0 = nI n) (hj : n + j + 4 ≤ 2000) (hT : ∀ k, k < 4 → T (n + j + k) = byN w (24 - 8 * k)) : f_X10_append (fdC p n T M j) p w = some ((), fdC p n T M (j + 4)) := by
  unfold f_X10_append b_X10_append_0 lp_X10_append_3
  have s0 := ap_step (j := j) (s := 24) (w := w) t9 r1 t22 l h0 (by omega) (by omega) (hT 0 (by omega))
  have s1 := ap_step (j := j + 1) (s := 16) (w := w) t9 r1 t22 l h0 (by omega) (by omega) (hT 1 (by omega))
  have s2 := ap_step (j := j + 2) (s := 8) (w := w) t9 r1 t22 l h0 (by omega) (by omega) (hT 2 (by omega))
  have s3 := ap_step (j := j + 3) (s := 0) (w := w) t9 r1 t22 l h0 (by omega) (by omega) (hT 3 (by omega))
  rw [show nI 24 + (-8 : Int32) = nI 16 by decide] at s0
  rw [show nI 16 + (-8 : Int32) = nI 8 by decide] at s1
  rw [show nI 8 + (-8 : Int32) = nI 0 by decide] at s2
  rw [show (24 : Int32) = nI 24 from rfl, lp_in (f := fun (q : gMem × Int32) => bb_X10_append_3 q.1 p w q.2) (a := (fdC p n T M j, nI 24)) s0, lp_in (f := fun (q : gMem × Int32) => bb_X10_append_3 q.1 p w q.2) (a := (fdC p n T M (j + 1), nI 16)) s1, lp_in (f := fun (q : gMem × Int32) => bb_X10_append_3 q.1 p w q.2) (a := (fdC p n T M (j + 2), nI 8)) s2, lp_in (f := fun (q : gMem × Int32) => bb_X10_append_3 q.1 p w q.2) (a := (fdC p n T M (j + 3), nI 0)) s3]
  refine lp_out ?_
  show bb_X10_append_3 (fdC p n T M (j + 4)) p w (nI 0 + (-8 : Int32)) = _
  unfold bb_X10_append_3
  rw [if_pos (by decide)]
  rfl
/-- the reference's tape -/
def fdM (m n : Nat) (T : Nat → Nat) (M : gMem) : Nat → gMem
  | 0 => M
  | j + 1 => wI (fdM m n T M j) (m + 1) (n + j) (nI (T (n + j)))
theorem fdM_f {m n : Nat} {T : Nat → Nat} {M : gMem} : ∀ j, (mT (fdM m n T M j) = mT M ∧ mL (fdM m n T M j) = mL M ∧ mR (fdM m n T M j) = mR M ∧ mN (fdM m n T M j) = mN M) ∧ (∀ a, a ≠ m + 1 → mI (fdM m n T M j) a = mI M a) ∧ ∀ q, mI (fdM m n T M j) (m + 1) q = if n ≤ q ∧ q < n + j then nI (T q) else mI M (m + 1) q
  | 0 => ⟨⟨rfl, rfl, rfl, rfl⟩, fun _ _ => rfl, fun q => by rw [if_neg (by omega)]; rfl⟩
  | j + 1 => by
    obtain ⟨h1, h3, h4⟩ := fdM_f (m := m) (n := n) (T := T) (M := M) j
    refine ⟨h1, fun a i2 => ?_, fun q => ?_⟩
    · rw [← h3 a i2]
      funext k
      show mI (wI _ (m + 1) _ _) a k = _
      rw [wI_o (.inl i2)]
    · show mI (wI _ (m + 1) _ _) (m + 1) q = _
      by_cases e : q = n + j
      · subst e
        rw [wI_e, if_pos (by omega)]
      · rw [wI_o (.inr e), h4 q]
        by_cases c : n ≤ q ∧ q < n + j
        · rw [if_pos c, if_pos (by omega)]
        · rw [if_neg c, if_neg (by omega)]
theorem sh_lit : ∀ j : Nat, j < 20 → ((24 : Int32) - ((8 : Int32) * (nI j - nI j / (4 : Int32) * (4 : Int32)))) &&& 31 = nI (24 - 8 * (j % 4)) &&& 31 := by decide +kernel
