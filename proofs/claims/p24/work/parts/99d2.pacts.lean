/-! ## Pure: what pacts show and hide -/
/-- no fisher is twice in a pact -/
def DSt (A : Nat → Nat → Int32) (np : Nat) : Prop := ∀ p, p < np → ∀ n, n ≤ 8 → A (74 + 2 * p) 3 = nI n → ∀ i j, i < j → j < n → A (75 + 2 * p) i ≠ A (75 + 2 * p) j
theorem SP_hid {A : Nat → Nat → Int32} {F s p : Nat} {c : Nat → Nat} (hF : F ≤ 8) (h : CTa A F s c) (hs : s < 2 ^ 30) : ∀ i, (∀ j, j < i → ∃ f, f < F ∧ A (75 + 2 * p) j = nI f) → (∀ j k, j < k → k < i → A (75 + 2 * p) j ≠ A (75 + 2 * p) k) → ∃ c' pot hid, CTa (spN A p i).1 F (s - pot) c' ∧ (spN A p i).2.1 = nI pot ∧ pot ≤ s ∧ (spN A p i).2.2 = nI hid ∧ hid = smN (fun j => c' (memA A p j)) i ∧ (0 < hid → ∃ j, j < i ∧ ¬ A (34 + 2 * memA A p j) 9 = 0)
  | 0, _, _ => ⟨c, 0, 0, h, rfl, Nat.zero_le _, rfl, rfl, fun z => absurd z (Nat.lt_irrefl _)⟩
  | i + 1, hm, hd => by
    obtain ⟨c', pot, hid, h1, h2, h3, h4, h5, h6⟩ := SP_hid hF h hs i (fun j hj => hm j (by omega)) (fun j k hj hk => hd j k hj (by omega))
    obtain ⟨f, hf, ef⟩ := hm i (by omega)
    have hP : okP A p i := fun j hj => by obtain ⟨f, hf, e⟩ := hm j (by omega); exact ⟨f, by omega, e⟩
    have em0 : memA A p i = f := by
      unfold memA
      rw [ef, nI_clamp (by omega)]
    have em : memA (spN A p i).1 p i = f := by
      unfold memA
      rw [spN_o i (fun f' hf' => by omega) hP, ef, nI_clamp (by omega)]
    have e9 : (spN A p i).1 (34 + 2 * f) 9 = A (34 + 2 * f) 9 := spN_o i (fun f' hf' => .inr (by decide)) hP
    have nm : ∀ j, j < i → memA A p j ≠ f := fun j hj z => by
      obtain ⟨f', hf', ef'⟩ := hm j (by omega)
      have : memA A p j = f' := by unfold memA; rw [ef', nI_clamp (by omega)]
      have e2 : f' = f := this.symm.trans z
      exact hd j i hj (by omega) (by rw [ef', ef, e2])
    have cf := smN_le (c := c') (f := f) F hf
    rw [h1.2] at cf
    have sh : ∃ v, v ≤ c' f ∧ shwA (spN A p i).1 f = nI v ∧ (A (34 + 2 * f) 9 = 0 → v = c' f) := by
      unfold shwA
      rw [h1.1 f hf, e9]
      by_cases e : A (34 + 2 * f) 9 = 0
      · rw [if_pos e]; exact ⟨c' f, Nat.le_refl _, rfl, fun _ => rfl⟩
      · rw [if_neg e]; exact ⟨c' f / 2, Nat.div_le_self _ _, nI_div (b := 2) (by omega) (by omega), fun z => absurd z e⟩
    obtain ⟨v, hv, ev, hv2⟩ := sh
    show ∃ c' pot hid, CTa (sp1 p i (spN A p i)).1 F (s - pot) c' ∧ (sp1 p i (spN A p i)).2.1 = nI pot ∧ pot ≤ s ∧ (sp1 p i (spN A p i)).2.2 = nI hid ∧ hid = smN (fun j => c' (memA A p j)) (i + 1) ∧ (0 < hid → ∃ j, j < i + 1 ∧ ¬ A (34 + 2 * memA A p j) 9 = 0)
    unfold sp1
    rw [em]
    have z := CT_set (v := c' f - v) (x := (spN A p i).1 (34 + 2 * f) 5 - shwA (spN A p i).1 f) h1 hf (by rw [h1.1 f hf, ev, nI_sub hv])
    refine ⟨fun i => if i = f then c' f - v else c' i, pot + v, hid + (c' f - v), ?_, ?_, by omega, ?_, ?_, fun hp => ?_⟩
    · rw [show s - (pot + v) = s - pot + (c' f - v) - c' f by omega]
      exact z
    · show (spN A p i).2.1 + shwA (spN A p i).1 f = _
      rw [h2, ev, nI_add]
    · show (spN A p i).2.2 + ((spN A p i).1 (34 + 2 * f) 5 - shwA (spN A p i).1 f) = _
      rw [h4, h1.1 f hf, ev, nI_sub hv, nI_add]
    · rw [smN]
      show hid + (c' f - v) = smN (fun j => if memA A p j = f then c' f - v else c' (memA A p j)) i + (if memA A p i = f then c' f - v else c' (memA A p i))
      rw [if_pos em0, h5, smN_c (d := fun j => c' (memA A p j)) i fun j hj => if_neg (nm j hj)]
    · by_cases e : A (34 + 2 * f) 9 = 0
      · have := hv2 e
        obtain ⟨j, j1, j2⟩ := h6 (by omega)
        exact ⟨j, by omega, j2⟩
      · exact ⟨i, by omega, by rw [em0]; exact e⟩
/-- what a pact has shown and hidden since A -/
def PQ (A Y : Nat → Nat → Int32) (s p : Nat) : Prop :=
  (0 ≤ A (74 + 2 * p) 0 → ∀ k, Y (74 + 2 * p) k = A (74 + 2 * p) k) ∧ (¬ 0 ≤ A (74 + 2 * p) 0 → ∃ pot hid n, pot ≤ s ∧ hid ≤ s ∧ n ≤ 8 ∧ A (74 + 2 * p) 3 = nI n ∧ Y (74 + 2 * p) 5 = A (74 + 2 * p) 5 + nI pot ∧ Y (74 + 2 * p) 6 = A (74 + 2 * p) 6 + nI hid ∧ Y (74 + 2 * p) 7 = A (74 + 2 * p) 7 + (if hid = 0 then 0 else 1) ∧ (0 < hid → ∃ j, j < n ∧ ¬ A (34 + 2 * memA A p j) 9 = 0))
theorem PQ_spl {A : Nat → Nat → Int32} {F s p n : Nat} {c : Nat → Nat} (hF : F ≤ 8) (h : CTa A F s c) (hs : s < 2 ^ 30) (n2 : n ≤ 8) (en : A (74 + 2 * p) 3 = nI n) (hm : ∀ j, j < n → ∃ f, f < F ∧ A (75 + 2 * p) j = nI f) (hd : ∀ j k, j < k → k < n → A (75 + 2 * p) j ≠ A (75 + 2 * p) k) : ∃ pot hid, pot ≤ s ∧ hid ≤ s ∧ splA A p n (74 + 2 * p) 5 = A (74 + 2 * p) 5 + nI pot ∧ splA A p n (74 + 2 * p) 6 = A (74 + 2 * p) 6 + nI hid ∧ splA A p n (74 + 2 * p) 7 = A (74 + 2 * p) 7 + (if hid = 0 then 0 else 1) ∧ (0 < hid → ∃ j, j < n ∧ ¬ A (34 + 2 * memA A p j) 9 = 0) := by
  obtain ⟨c', pot, hid, h1, h2, h3, h4, h5, h6⟩ := SP_hid hF h hs n hm hd
  have hmem : ∀ j, j < n → memA A p j < F := fun j hj => by
    obtain ⟨f, hf, e⟩ := hm j hj
    unfold memA
    rw [e, nI_clamp (by omega)]; exact hf
  have le := smN_inj (m := memA A p) (F := F) n c' hmem (fun i j hi hj z => by
    obtain ⟨f, hf, e⟩ := hm i (by omega)
    obtain ⟨f', hf', e'⟩ := hm j hj
    unfold memA at z
    rw [e, e', nI_clamp (by omega), nI_clamp (by omega)] at z
    exact hd i j hi hj (by rw [e, e', z]))
  rw [← h5, h1.2] at le
  refine ⟨pot, hid, h3, by omega, ?_, ?_, ?_, h6⟩
  · unfold splA
    rw [up2_ne (.inr (by decide)), up2_ne (.inr (by decide)), up2_eq, h2]
  · unfold splA
    rw [up2_ne (.inr (by decide)), up2_eq, h4]
  · unfold splA
    rw [up2_eq, h4]
    by_cases z : hid = 0
    · rw [if_pos z, z, if_pos (show nI 0 ≤ (0 : Int32) by decide)]
    · rw [if_neg z, if_neg (fun y => by have := (nI_leI (a := hid) (b := 0) (by omega) (by omega)).mp y; omega)]
theorem PQ_splits {A : Nat → Nat → Int32} {F G np ng s : Nat} {c : Nat → Nat} (W : WS A F G np ng) (D : WD A F G) (DS : DSt A np) (h : CTa A F s c) (hs : s < 2 ^ 30) : ∀ n, n ≤ np → ∀ p, p < np → (p < n → PQ A (splitsA A n) s p) ∧ (n ≤ p → ∀ k, splitsA A n (74 + 2 * p) k = A (74 + 2 * p) k)
  | 0, _, _, _ => ⟨fun z => absurd z (Nat.not_lt_zero _), fun _ _ => rfl⟩
  | n + 1, hn, p, hp => by
    obtain ⟨ih1, ih2⟩ := PQ_splits W D DS h hs n (by omega) p hp
    obtain ⟨-, ihn⟩ := PQ_splits W D DS h hs n (by omega) n (by omega)
    have ihn := ihn (Nat.le_refl _)
    obtain ⟨c', hc⟩ := CT_splits W D h hs n (by omega)
    obtain ⟨w1, w2⟩ := splitsA_W W D n (by omega)
    have hF : F ≤ 8 := W.2.2.2.1
    have hp6 : np ≤ 6 := W.2.2.2.2.1.2.1
    have W' := WS_c w1 W
    obtain ⟨k, k1, k2, k3, k4⟩ := W'.2.2.2.2.2.2.2 n (by omega)
    have kP : okP (splitsA A n) n k := fun j hj => by obtain ⟨f, hf, e⟩ := k4 j hj; exact ⟨f, by omega, e⟩
    have k3A : A (74 + 2 * n) 3 = nI k := (ihn 3).symm.trans k3
    have e75 : ∀ j, splitsA A n (75 + 2 * n) j = A (75 + 2 * n) j := fun j => w1 _ _ (by unfold told; omega)
    have em : ∀ j, memA (splitsA A n) n j = memA A n j := fun j => by unfold memA; rw [e75]
    rw [splitsA]
    by_cases q : 0 ≤ splitsA A n (74 + 2 * n) 0
    · rw [if_pos q]
      refine ⟨fun z => ?_, fun z => ih2 (by omega)⟩
      by_cases z2 : p < n
      · exact ih1 z2
      · have : p = n := by omega
        subst this
        refine ⟨fun _ => ihn, fun y => absurd ?_ y⟩
        rw [← ihn 0]; exact q
    · rw [if_neg q, k3, nI_clamp (by omega)]
      have oth : p ≠ n → ∀ j, splA (splitsA A n) n k (74 + 2 * p) j = splitsA A n (74 + 2 * p) j := fun z j => splA_o kP k1 (fun f hf => .inl (by omega)) (.inl (by omega))
      refine ⟨fun z => ?_, fun z j => by rw [oth (by omega)]; exact ih2 (by omega) j⟩
      by_cases z2 : p < n
      · obtain ⟨a, b⟩ := ih1 z2
        have o := oth (by omega)
        refine ⟨fun y j => (o j).trans (a y j), fun y => ?_⟩
        obtain ⟨pot, hid, n', b1, b2, b3, b4, b5, b6, b7, b8⟩ := b y
        exact ⟨pot, hid, n', b1, b2, b3, b4, (o 5).trans b5, (o 6).trans b6, (o 7).trans b7, b8⟩
      · have : p = n := by omega
        subst this
        refine ⟨fun y => absurd (by rw [ihn 0]; exact y) q, fun _ => ?_⟩
        obtain ⟨pot, hid, b1, b2, b5, b6, b7, b8⟩ := PQ_spl hF hc hs k2 k3 k4 (fun i j hi hj => by rw [e75, e75]; exact DS p hp k k2 k3A i j hi hj)
        rw [ihn 5] at b5
        rw [ihn 6] at b6
        rw [ihn 7] at b7
        refine ⟨pot, hid, k, b1, b2, k2, k3A, b5, b6, b7, fun y => ?_⟩
        obtain ⟨j, j1, j2⟩ := b8 y
        obtain ⟨f, hf, ef⟩ := k4 j j1
        have hmf : memA A p j = f := by rw [← em]; unfold memA; rw [ef, nI_clamp (by omega)]
        refine ⟨j, j1, ?_⟩
        rw [em, hmf, w1 _ _ (by unfold told; omega)] at j2
        rw [hmf]; exact j2
/-- what pacts leave -/
theorem sp_gen {A : Nat → Nat → Int32} {F G np ng d k : Nat} (W : WS A F G np ng) (D : WD A F G) (h1 : ∀ f, f < 8 → d ≠ 34 + 2 * f ∨ k ≠ 5) (h2 : ∀ p, p < 6 → d ≠ 74 + 2 * p ∨ (k ≠ 5 ∧ k ≠ 6 ∧ k ≠ 7)) : ∀ n, n ≤ np → splitsA A n d k = A d k
  | 0, _ => rfl
  | n + 1, hn => by
    obtain ⟨w1, w2⟩ := splitsA_W W D n (by omega)
    have W' := WS_c w1 W
    have hp6 : np ≤ 6 := W.2.2.2.2.1.2.1
    obtain ⟨q, k1, k2, k3, k4⟩ := WS_p W' (show n < np by omega)
    have ih := sp_gen W D h1 h2 n (by omega)
    rw [splitsA]
    by_cases c : 0 ≤ splitsA A n (74 + 2 * n) 0
    · rw [if_pos c]; exact ih
    · rw [if_neg c, k3, nI_clamp (by omega), splA_o k4 k1 h1 (h2 n (by omega))]; exact ih
