/-! ## Pure: each fisher goes once; a catch is at most 99 -/
theorem drS_all {n : Nat} {x : Int32} (hn : n < 2 ^ 31) : ∀ j, j ≤ n → ∀ v, v < n → (∃ i, i < j ∧ (drS (fun _ _ => 0) n x j).1 9 i = nI v) ∨ ∃ k, k < n - j ∧ (drS (fun _ _ => 0) n x j).1 10 k = nI v
  | 0, _, v, hv => .inr ⟨v, hv, by simp only [drS, row0, up1_e, if_pos hv]⟩
  | j + 1, hj, v, hv => by
    have ih := drS_all (x := x) hn j (by omega) v hv
    have hp := drP_lt (y := drN (drS (fun _ _ => 0) n x j).2) (k := n - j) (by omega) (by omega)
    simp only [drS]
    generalize drP (drN (drS (fun _ _ => 0) n x j).2) (n - j) = p at hp
    rcases ih with ⟨i, hi, e⟩ | ⟨k, hk, e⟩
    · exact .inl ⟨i, by omega, by rw [up1_o (by omega), up2_ne (.inr (by omega))]; exact e⟩
    · by_cases c : k = p
      · subst c
        exact .inl ⟨j, by omega, by rw [up1_o (by omega), up2_eq]; exact e⟩
      · by_cases c2 : k < p
        · refine .inr ⟨k, by omega, ?_⟩
          rw [up1_e]
          unfold shD
          rw [if_neg (by omega)]
          exact e
        · refine .inr ⟨k - 1, by omega, ?_⟩
          rw [up1_e]
          unfold shD
          rw [if_pos (by omega), show k - 1 + 1 = k by omega]
          exact e
theorem lt_sur {n v : Nat} {x : Int32} (hn : n < 2 ^ 31) (hv : v < n) : ∃ i, i < n ∧ ltA n x i = v := by
  rcases drS_all (x := x) hn n (Nat.le_refl _) v hv with ⟨i, hi, e⟩ | ⟨k, hk, -⟩
  · refine ⟨i, hi, ?_⟩
    unfold ltA
    rw [e, nI_clamp (by omega)]
  · omega
/-- what the first j sizes weigh, from 5 down -/
def swN (hh : Nat → Nat) : Nat → Nat
  | 0 => 0
  | j + 1 => swN hh j + hh (5 - j) * (5 - j)
theorem swN_c {hh h2 : Nat → Nat} : ∀ j, (∀ s, 5 - j < s → hh s = h2 s) → swN hh j = swN h2 j
  | 0, _ => rfl
  | j + 1, h => by
    by_cases z : 5 - j = 0
    · rw [swN, swN, z, swN_c j fun s hs => h s (by omega)]; omega
    · rw [swN, swN, swN_c j fun s hs => h s (by omega), h (5 - j) (by omega)]
theorem hlN_w {fk : Nat → Nat} {h w m : Nat} : ∀ j, j ≤ 5 → swN (hlN fk h w m j).1 j = (hlN fk h w m j).2.2.1
  | 0, _ => rfl
  | j + 1, hj => by
    have ih := hlN_w (fk := fk) (h := h) (w := w) (m := m) j (by omega)
    have z := (hlN_b (fk := fk) (h := h) (w := w) (m := m) j).2.2.2.1 (5 - j) (by omega) (Nat.le_refl _)
    rw [swN, hlN]
    by_cases c : m ≤ 5 - j ∧ (hlN fk h w m j).2.2.2 = 0
    · rw [if_pos c]
      unfold hl1
      show swN (up1 _ (5 - j) _) j + up1 _ (5 - j) _ (5 - j) * (5 - j) = _
      rw [up1_e, swN_c (h2 := (hlN fk h w m j).1) j (fun s hs => up1_o (by omega)), ih]
    · rw [if_neg c, ih, z]; omega
theorem wgN_le {hh : Nat → Nat} {m : Nat} : wgN hh m 5 ≤ swN hh 5 := by
  show 0 + (if m ≤ 1 then hh 1 * 1 else 0) + (if m ≤ 2 then hh 2 * 2 else 0) + (if m ≤ 3 then hh 3 * 3 else 0) + (if m ≤ 4 then hh 4 * 4 else 0) + (if m ≤ 5 then hh 5 * 5 else 0) ≤ 0 + hh 5 * 5 + hh 4 * 4 + hh 3 * 3 + hh 2 * 2 + hh 1 * 1
  split <;> split <;> split <;> split <;> split <;> omega
/-- what a fisher has caught is at most 99 -/
def CQ (A : Nat → Nat → Int32) (f : Nat) : Prop := ∃ c, c ≤ 99 ∧ A (34 + 2 * f) 5 = nI c
theorem CQ_sail {A : Nat → Nat → Int32} {f g F G : Nat} (hF : F ≤ 8) (hG : G ≤ 8) (hf : f < F) (hg : g < G) (D : WD A F G) : CQ (sailA A f g) f := by
  refine ⟨_, ?_, (sailA_k (A := A) (show f < 8 by omega) (show g < 8 by omega)).2.1⟩
  obtain ⟨-, ⟨w, hw, ew⟩, -⟩ := D.2 f hf
  refine Nat.le_trans wgN_le ?_
  unfold hlA
  rw [hlN_w 5 (Nat.le_refl _)]
  refine Nat.le_trans (hlN_b 5).2.1 ?_
  rw [ew, nI_clamp (by omega)]
  exact hw
theorem CQ_fleet {pg : Nat → Nat} {len np ng F G : Nat} {lf : Nat → Nat} {A : Nat → Nat → Int32} (W : WS A F G np ng) (D : WD A F G) : ∀ n, (∀ i, i < n → lf i < F) → ∀ i, i < n → CQ (fleetA pg len np ng lf A n) (lf i)
  | 0, _, i, hi => absurd hi (Nat.not_lt_zero _)
  | n + 1, h, i, hi => by
    obtain ⟨w1, w2⟩ := fleetA_W (pg := pg) (len := len) (lf := lf) W D n fun i hi => h i (by omega)
    have hF : F ≤ 8 := W.2.2.2.1
    have hG : G ≤ 8 := W.2.1
    have hl := h n (by omega)
    have W' := WS_c w1 W
    show CQ (goA pg len np ng (fleetA pg len np ng lf A n) (lf n)) (lf i)
    have ih : i < n → CQ (fleetA pg len np ng lf A n) (lf i) := fun z => CQ_fleet W D n (fun i hi => h i (by omega)) i z
    unfold goA
    rcases fgo_v (pg := pg) (len := len) (f := lf n) W' ng 0 (by omega) with c | ⟨g, hg, c⟩
    · rw [if_pos c]
      by_cases e : lf i = lf n
      · rw [e]
        refine ⟨0, by omega, ?_⟩
        unfold homeA
        rw [up2_eq]; rfl
      · obtain ⟨c, c1, c2⟩ := ih (by
          by_cases z : i = n
          · exact absurd (by rw [z]) e
          · omega)
        exact ⟨c, c1, by rw [homeA_o (.inl (by omega))]; exact c2⟩
    · rw [c, if_neg (nI_nm1 (by omega)), nI_clamp (by omega)]
      by_cases e : lf i = lf n
      · rw [e]
        exact CQ_sail hF hG hl hg w2
      · obtain ⟨c, c1, c2⟩ := ih (by
          by_cases z : i = n
          · exact absurd (by rw [z]) e
          · omega)
        have hi' := h i hi
        exact ⟨c, c1, by rw [sailA_o (.inl (by omega)) (by omega) (by omega) (by omega)]; exact c2⟩

