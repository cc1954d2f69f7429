/-! ## Pure: the class's calls make nothing, and change no tag and no length (written by gen98zz1.py) -/
def PW {α : Type} (Q : α → Prop) (o : Option α) : Prop := ∀ z, o = some z → Q z
def QR {α : Type} (T L : Nat → Nat) (z : α × gMem) : Prop := mT z.2 = T ∧ mL z.2 = L
def QS {σ β : Type} (T L : Nat → Nat) (Q : β → Prop) (z : (gMem × σ) ⊕ β) : Prop := Sum.elim (fun q => mT q.1 = T ∧ mL q.1 = L) Q z
theorem pw_ck {α : Type} {Q : α → Prop} {c : Prop} [Decidable c] {o : Option α} (h : PW Q o) : PW Q (ck c o) := fun z e => by
  unfold ck at e
  by_cases hc : c
  · rw [if_pos hc] at e; exact h z e
  · rw [if_neg hc] at e; cases e
theorem pw_if {α : Type} {Q : α → Prop} {c : Prop} [Decidable c] {a b : Option α} (h : PW Q a) (g : PW Q b) : PW Q (if c then a else b) := fun z e => by
  by_cases hc : c
  · rw [if_pos hc] at e; exact h z e
  · rw [if_neg hc] at e; exact g z e
theorem pw_dr {α : Type} {Q : α → Prop} {r : Option Nat} {k : Nat → Option α} (h : ∀ a, PW Q (k a)) : PW Q (dr r k) := fun z e => by
  cases r with
  | none => cases e
  | some a => exact h a z e
theorem pw_lw {α : Type} {Q : α → Prop} {M : gMem} {k : gMem → Option α} (h : PW Q (k M)) : PW Q (lw M k) := h
theorem pw_bd {α β : Type} {T L : Nat → Nat} {Q : β → Prop} {o : Option (α × gMem)} {k : α → gMem → Option β} (h : PW (QR T L) o) (g : ∀ x M, mT M = T → mL M = L → PW Q (k x M)) : PW Q (bd o k) := fun z e => by
  match o, h, e with
  | some (x, M), h, e => exact g x M (h _ rfl).1 (h _ rfl).2 z e
theorem pw_bx {α β : Type} {T L : Nat → Nat} {Q : β → Prop} {o : Option ((Nat ⊕ α) × gMem)} {kt : Nat → gMem → Option β} {kr : α → gMem → Option β} (h : PW (QR T L) o) (g1 : ∀ x M, mT M = T → mL M = L → PW Q (kt x M)) (g2 : ∀ x M, mT M = T → mL M = L → PW Q (kr x M)) : PW Q (bx o kt kr) := fun z e => by
  match o, h, e with
  | some (.inl x, M), h, e => exact g1 x M (h _ rfl).1 (h _ rfl).2 z e
  | some (.inr x, M), h, e => exact g2 x M (h _ rfl).1 (h _ rfl).2 z e
theorem pw_oI {σ β : Type} {T L : Nat → Nat} {Q : β → Prop} {o : Option β} (h : PW Q o) : PW (QS (σ := σ) T L Q) (oI o) := fun z e => by
  cases o with
  | none => cases e
  | some b =>
    have e' : some (Sum.inr b) = some z := e
    injection e' with e'
    rw [← e']
    exact h b rfl
theorem pw_some {α : Type} {T L : Nat → Nat} {M : gMem} {x : α} (h : mT M = T) (g : mL M = L) : PW (QR T L) (some (x, M)) := fun z e => by
  injection e with e
  rw [← e]
  exact ⟨h, g⟩
theorem pw_inl {σ β : Type} {T L : Nat → Nat} {Q : β → Prop} {M : gMem} {x : σ} (h : mT M = T) (g : mL M = L) : PW (QS T L Q) (some (Sum.inl (M, x))) := fun z e => by
  injection e with e
  rw [← e]
  exact ⟨h, g⟩
theorem pw_none {α : Type} {Q : α → Prop} : PW Q none := fun z e => by cases e
theorem pw_lpN {σ β : Type} {T L : Nat → Nat} {Q : β → Prop} {f : (gMem × σ) → Option ((gMem × σ) ⊕ β)} (h : ∀ M s, mT M = T → mL M = L → PW (QS T L Q) (f (M, s))) : ∀ n M s, mT M = T → mL M = L → PW Q (lpN f n (M, s))
  | 0, _, _, _, _ => pw_none
  | n + 1, M, s, hT, hL => fun z e => by
    have hh := h M s hT hL
    cases hf : f (M, s) with
    | none =>
      simp only [lpN, hf] at e
      cases e
    | some y =>
      rw [hf] at hh
      cases y with
      | inr b =>
        simp only [lpN, hf] at e
        injection e with e
        rw [← e]
        exact hh _ rfl
      | inl a' =>
        simp only [lpN, hf] at e
        exact pw_lpN h n a'.1 a'.2 (hh _ rfl).1 (hh _ rfl).2 z e
theorem pw_lp {σ β : Type} {T L : Nat → Nat} {Q : β → Prop} {f : (gMem × σ) → Option ((gMem × σ) ⊕ β)} {M : gMem} {s : σ} (hT : mT M = T) (hL : mL M = L) (h : ∀ M s, mT M = T → mL M = L → PW (QS T L Q) (f (M, s))) : PW Q (lp f (M, s)) := fun z e => by
  obtain ⟨n, hn⟩ := lp_iff.mp e
  exact pw_lpN h n M s hT hL z hn
theorem pr_bb_X3_allFish_4 {T L : Nat → Nat} {M : gMem} {x0 : Nat} {x1 : Int32} {x2 : Int32} (hT : mT M = T) (hL : mL M = L) : PW (QS T L (QR T L)) (bb_X3_allFish_4 M x0 x1 x2) := by
  unfold bb_X3_allFish_4
  repeat' first | with_reducible refine pw_ck ?_ | with_reducible refine pw_dr (fun _ => ?_) | with_reducible refine pw_if ?_ ?_ | with_reducible refine pw_lw ?_ | with_reducible refine pw_bd (T := T) (L := L) ?_ (fun _ _ _ _ => ?_) | with_reducible refine pw_bx (T := T) (L := L) ?_ (fun _ _ _ _ => ?_) (fun _ _ _ _ => ?_) | with_reducible refine pw_oI ?_ | with_reducible refine pw_some ?_ ?_ | with_reducible refine pw_inl ?_ ?_ | with_reducible exact pw_none | assumption
theorem pr_lp_X3_allFish_4 {T L : Nat → Nat} {M : gMem} {x0 : Nat} {x1 : Int32} {x2 : Int32} (hT : mT M = T) (hL : mL M = L) : PW (QR T L) (lp_X3_allFish_4 M x0 x1 x2) := by
  unfold lp_X3_allFish_4
  exact pw_lp hT hL (fun _ _ hT hL => pr_bb_X3_allFish_4 hT hL)
theorem pr_b_X3_allFish_0 {T L : Nat → Nat} {M : gMem} {x0 : Nat} (hT : mT M = T) (hL : mL M = L) : PW (QR T L) (b_X3_allFish_0 M x0) := by
  unfold b_X3_allFish_0
  repeat' first | with_reducible refine pr_lp_X3_allFish_4 ?_ ?_ | with_reducible refine pw_ck ?_ | with_reducible refine pw_dr (fun _ => ?_) | with_reducible refine pw_if ?_ ?_ | with_reducible refine pw_lw ?_ | with_reducible refine pw_bd (T := T) (L := L) ?_ (fun _ _ _ _ => ?_) | with_reducible refine pw_bx (T := T) (L := L) ?_ (fun _ _ _ _ => ?_) (fun _ _ _ _ => ?_) | with_reducible refine pw_oI ?_ | with_reducible refine pw_some ?_ ?_ | with_reducible refine pw_inl ?_ ?_ | with_reducible exact pw_none | assumption
theorem pr_f_X3_allFish {T L : Nat → Nat} {M : gMem} {x0 : Nat} (hT : mT M = T) (hL : mL M = L) : PW (QR T L) (f_X3_allFish M x0) := by
  unfold f_X3_allFish
  repeat' first | with_reducible refine pr_b_X3_allFish_0 ?_ ?_ | with_reducible refine pw_ck ?_ | with_reducible refine pw_dr (fun _ => ?_) | with_reducible refine pw_if ?_ ?_ | with_reducible refine pw_lw ?_ | with_reducible refine pw_bd (T := T) (L := L) ?_ (fun _ _ _ _ => ?_) | with_reducible refine pw_bx (T := T) (L := L) ?_ (fun _ _ _ _ => ?_) (fun _ _ _ _ => ?_) | with_reducible refine pw_oI ?_ | with_reducible refine pw_some ?_ ?_ | with_reducible refine pw_inl ?_ ?_ | with_reducible exact pw_none | assumption
set_option maxRecDepth 100000 in
theorem pr_bb_X3_grow_2 {T L : Nat → Nat} {M : gMem} {x0 : Nat} {x1 : Int32} (hT : mT M = T) (hL : mL M = L) : PW (QS T L (QR T L)) (bb_X3_grow_2 M x0 x1) := by
  unfold bb_X3_grow_2
  repeat' first | with_reducible refine pr_f_X3_allFish ?_ ?_ | with_reducible refine pw_ck ?_ | with_reducible refine pw_dr (fun _ => ?_) | with_reducible refine pw_if ?_ ?_ | with_reducible refine pw_lw ?_ | with_reducible refine pw_bd (T := T) (L := L) ?_ (fun _ _ _ _ => ?_) | with_reducible refine pw_bx (T := T) (L := L) ?_ (fun _ _ _ _ => ?_) (fun _ _ _ _ => ?_) | with_reducible refine pw_oI ?_ | with_reducible refine pw_some ?_ ?_ | with_reducible refine pw_inl ?_ ?_ | with_reducible exact pw_none | assumption
theorem pr_lp_X3_grow_2 {T L : Nat → Nat} {M : gMem} {x0 : Nat} {x1 : Int32} (hT : mT M = T) (hL : mL M = L) : PW (QR T L) (lp_X3_grow_2 M x0 x1) := by
  unfold lp_X3_grow_2
  exact pw_lp hT hL (fun _ _ hT hL => pr_bb_X3_grow_2 hT hL)
theorem pr_b_X3_grow_0 {T L : Nat → Nat} {M : gMem} {x0 : Nat} (hT : mT M = T) (hL : mL M = L) : PW (QR T L) (b_X3_grow_0 M x0) := by
  unfold b_X3_grow_0
  repeat' first | with_reducible refine pr_lp_X3_grow_2 ?_ ?_ | with_reducible refine pw_ck ?_ | with_reducible refine pw_dr (fun _ => ?_) | with_reducible refine pw_if ?_ ?_ | with_reducible refine pw_lw ?_ | with_reducible refine pw_bd (T := T) (L := L) ?_ (fun _ _ _ _ => ?_) | with_reducible refine pw_bx (T := T) (L := L) ?_ (fun _ _ _ _ => ?_) (fun _ _ _ _ => ?_) | with_reducible refine pw_oI ?_ | with_reducible refine pw_some ?_ ?_ | with_reducible refine pw_inl ?_ ?_ | with_reducible exact pw_none | assumption
theorem pr_f_X3_grow {T L : Nat → Nat} {M : gMem} {x0 : Nat} (hT : mT M = T) (hL : mL M = L) : PW (QR T L) (f_X3_grow M x0) := by
  unfold f_X3_grow
  repeat' first | with_reducible refine pr_b_X3_grow_0 ?_ ?_ | with_reducible refine pw_ck ?_ | with_reducible refine pw_dr (fun _ => ?_) | with_reducible refine pw_if ?_ ?_ | with_reducible refine pw_lw ?_ | with_reducible refine pw_bd (T := T) (L := L) ?_ (fun _ _ _ _ => ?_) | with_reducible refine pw_bx (T := T) (L := L) ?_ (fun _ _ _ _ => ?_) (fun _ _ _ _ => ?_) | with_reducible refine pw_oI ?_ | with_reducible refine pw_some ?_ ?_ | with_reducible refine pw_inl ?_ ?_ | with_reducible exact pw_none | assumption
theorem pr_bb_X3_copyFrom_26 {T L : Nat → Nat} {M : gMem} {x0 : Nat} {x1 : Option Nat} {x2 : Int32} (hT : mT M = T) (hL : mL M = L) : PW (QS T L (QR T L)) (bb_X3_copyFrom_26 M x0 x1 x2) := by
  unfold bb_X3_copyFrom_26
  repeat' first | with_reducible refine pw_ck ?_ | with_reducible refine pw_dr (fun _ => ?_) | with_reducible refine pw_if ?_ ?_ | with_reducible refine pw_lw ?_ | with_reducible refine pw_bd (T := T) (L := L) ?_ (fun _ _ _ _ => ?_) | with_reducible refine pw_bx (T := T) (L := L) ?_ (fun _ _ _ _ => ?_) (fun _ _ _ _ => ?_) | with_reducible refine pw_oI ?_ | with_reducible refine pw_some ?_ ?_ | with_reducible refine pw_inl ?_ ?_ | with_reducible exact pw_none | assumption
theorem pr_lp_X3_copyFrom_26 {T L : Nat → Nat} {M : gMem} {x0 : Nat} {x1 : Option Nat} {x2 : Int32} (hT : mT M = T) (hL : mL M = L) : PW (QR T L) (lp_X3_copyFrom_26 M x0 x1 x2) := by
  unfold lp_X3_copyFrom_26
  exact pw_lp hT hL (fun _ _ hT hL => pr_bb_X3_copyFrom_26 hT hL)
theorem pr_b_X3_copyFrom_0 {T L : Nat → Nat} {M : gMem} {x0 : Nat} {x1 : Option Nat} (hT : mT M = T) (hL : mL M = L) : PW (QR T L) (b_X3_copyFrom_0 M x0 x1) := by
  unfold b_X3_copyFrom_0
  repeat' first | with_reducible refine pr_lp_X3_copyFrom_26 ?_ ?_ | with_reducible refine pw_ck ?_ | with_reducible refine pw_dr (fun _ => ?_) | with_reducible refine pw_if ?_ ?_ | with_reducible refine pw_lw ?_ | with_reducible refine pw_bd (T := T) (L := L) ?_ (fun _ _ _ _ => ?_) | with_reducible refine pw_bx (T := T) (L := L) ?_ (fun _ _ _ _ => ?_) (fun _ _ _ _ => ?_) | with_reducible refine pw_oI ?_ | with_reducible refine pw_some ?_ ?_ | with_reducible refine pw_inl ?_ ?_ | with_reducible exact pw_none | assumption
theorem pr_f_X3_copyFrom {T L : Nat → Nat} {M : gMem} {x0 : Nat} {x1 : Option Nat} (hT : mT M = T) (hL : mL M = L) : PW (QR T L) (f_X3_copyFrom M x0 x1) := by
  unfold f_X3_copyFrom
  repeat' first | with_reducible refine pr_b_X3_copyFrom_0 ?_ ?_ | with_reducible refine pw_ck ?_ | with_reducible refine pw_dr (fun _ => ?_) | with_reducible refine pw_if ?_ ?_ | with_reducible refine pw_lw ?_ | with_reducible refine pw_bd (T := T) (L := L) ?_ (fun _ _ _ _ => ?_) | with_reducible refine pw_bx (T := T) (L := L) ?_ (fun _ _ _ _ => ?_) (fun _ _ _ _ => ?_) | with_reducible refine pw_oI ?_ | with_reducible refine pw_some ?_ ?_ | with_reducible refine pw_inl ?_ ?_ | with_reducible exact pw_none | assumption
theorem pr_b_X1_tear_0 {T L : Nat → Nat} {M : gMem} {x0 : Nat} (hT : mT M = T) (hL : mL M = L) : PW (QR T L) (b_X1_tear_0 M x0) := by
  unfold b_X1_tear_0
  repeat' first | with_reducible refine pw_ck ?_ | with_reducible refine pw_dr (fun _ => ?_) | with_reducible refine pw_if ?_ ?_ | with_reducible refine pw_lw ?_ | with_reducible refine pw_bd (T := T) (L := L) ?_ (fun _ _ _ _ => ?_) | with_reducible refine pw_bx (T := T) (L := L) ?_ (fun _ _ _ _ => ?_) (fun _ _ _ _ => ?_) | with_reducible refine pw_oI ?_ | with_reducible refine pw_some ?_ ?_ | with_reducible refine pw_inl ?_ ?_ | with_reducible exact pw_none | assumption
theorem pr_f_X1_tear {T L : Nat → Nat} {M : gMem} {x0 : Nat} (hT : mT M = T) (hL : mL M = L) : PW (QR T L) (f_X1_tear M x0) := by
  unfold f_X1_tear
  repeat' first | with_reducible refine pr_b_X1_tear_0 ?_ ?_ | with_reducible refine pw_ck ?_ | with_reducible refine pw_dr (fun _ => ?_) | with_reducible refine pw_if ?_ ?_ | with_reducible refine pw_lw ?_ | with_reducible refine pw_bd (T := T) (L := L) ?_ (fun _ _ _ _ => ?_) | with_reducible refine pw_bx (T := T) (L := L) ?_ (fun _ _ _ _ => ?_) (fun _ _ _ _ => ?_) | with_reducible refine pw_oI ?_ | with_reducible refine pw_some ?_ ?_ | with_reducible refine pw_inl ?_ ?_ | with_reducible exact pw_none | assumption
theorem pr_bb_X1_copyFrom_82 {T L : Nat → Nat} {M : gMem} {x0 : Nat} {x1 : Option Nat} {x2 : Int32} (hT : mT M = T) (hL : mL M = L) : PW (QS T L (QR T L)) (bb_X1_copyFrom_82 M x0 x1 x2) := by
  unfold bb_X1_copyFrom_82
  repeat' first | with_reducible refine pw_ck ?_ | with_reducible refine pw_dr (fun _ => ?_) | with_reducible refine pw_if ?_ ?_ | with_reducible refine pw_lw ?_ | with_reducible refine pw_bd (T := T) (L := L) ?_ (fun _ _ _ _ => ?_) | with_reducible refine pw_bx (T := T) (L := L) ?_ (fun _ _ _ _ => ?_) (fun _ _ _ _ => ?_) | with_reducible refine pw_oI ?_ | with_reducible refine pw_some ?_ ?_ | with_reducible refine pw_inl ?_ ?_ | with_reducible exact pw_none | assumption
theorem pr_lp_X1_copyFrom_82 {T L : Nat → Nat} {M : gMem} {x0 : Nat} {x1 : Option Nat} {x2 : Int32} (hT : mT M = T) (hL : mL M = L) : PW (QR T L) (lp_X1_copyFrom_82 M x0 x1 x2) := by
  unfold lp_X1_copyFrom_82
  exact pw_lp hT hL (fun _ _ hT hL => pr_bb_X1_copyFrom_82 hT hL)
theorem pr_b_X1_copyFrom_0 {T L : Nat → Nat} {M : gMem} {x0 : Nat} {x1 : Option Nat} (hT : mT M = T) (hL : mL M = L) : PW (QR T L) (b_X1_copyFrom_0 M x0 x1) := by
  unfold b_X1_copyFrom_0
  repeat' first | with_reducible refine pr_lp_X1_copyFrom_82 ?_ ?_ | with_reducible refine pw_ck ?_ | with_reducible refine pw_dr (fun _ => ?_) | with_reducible refine pw_if ?_ ?_ | with_reducible refine pw_lw ?_ | with_reducible refine pw_bd (T := T) (L := L) ?_ (fun _ _ _ _ => ?_) | with_reducible refine pw_bx (T := T) (L := L) ?_ (fun _ _ _ _ => ?_) (fun _ _ _ _ => ?_) | with_reducible refine pw_oI ?_ | with_reducible refine pw_some ?_ ?_ | with_reducible refine pw_inl ?_ ?_ | with_reducible exact pw_none | assumption
theorem pr_f_X1_copyFrom {T L : Nat → Nat} {M : gMem} {x0 : Nat} {x1 : Option Nat} (hT : mT M = T) (hL : mL M = L) : PW (QR T L) (f_X1_copyFrom M x0 x1) := by
  unfold f_X1_copyFrom
  repeat' first | with_reducible refine pr_b_X1_copyFrom_0 ?_ ?_ | with_reducible refine pw_ck ?_ | with_reducible refine pw_dr (fun _ => ?_) | with_reducible refine pw_if ?_ ?_ | with_reducible refine pw_lw ?_ | with_reducible refine pw_bd (T := T) (L := L) ?_ (fun _ _ _ _ => ?_) | with_reducible refine pw_bx (T := T) (L := L) ?_ (fun _ _ _ _ => ?_) (fun _ _ _ _ => ?_) | with_reducible refine pw_oI ?_ | with_reducible refine pw_some ?_ ?_ | with_reducible refine pw_inl ?_ ?_ | with_reducible exact pw_none | assumption
theorem pr_b_X2_copyFrom_0 {T L : Nat → Nat} {M : gMem} {x0 : Nat} {x1 : Option Nat} (hT : mT M = T) (hL : mL M = L) : PW (QR T L) (b_X2_copyFrom_0 M x0 x1) := by
  unfold b_X2_copyFrom_0
  repeat' first | with_reducible refine pw_ck ?_ | with_reducible refine pw_dr (fun _ => ?_) | with_reducible refine pw_if ?_ ?_ | with_reducible refine pw_lw ?_ | with_reducible refine pw_bd (T := T) (L := L) ?_ (fun _ _ _ _ => ?_) | with_reducible refine pw_bx (T := T) (L := L) ?_ (fun _ _ _ _ => ?_) (fun _ _ _ _ => ?_) | with_reducible refine pw_oI ?_ | with_reducible refine pw_some ?_ ?_ | with_reducible refine pw_inl ?_ ?_ | with_reducible exact pw_none | assumption
theorem pr_f_X2_copyFrom {T L : Nat → Nat} {M : gMem} {x0 : Nat} {x1 : Option Nat} (hT : mT M = T) (hL : mL M = L) : PW (QR T L) (f_X2_copyFrom M x0 x1) := by
  unfold f_X2_copyFrom
  repeat' first | with_reducible refine pr_b_X2_copyFrom_0 ?_ ?_ | with_reducible refine pw_ck ?_ | with_reducible refine pw_dr (fun _ => ?_) | with_reducible refine pw_if ?_ ?_ | with_reducible refine pw_lw ?_ | with_reducible refine pw_bd (T := T) (L := L) ?_ (fun _ _ _ _ => ?_) | with_reducible refine pw_bx (T := T) (L := L) ?_ (fun _ _ _ _ => ?_) (fun _ _ _ _ => ?_) | with_reducible refine pw_oI ?_ | with_reducible refine pw_some ?_ ?_ | with_reducible refine pw_inl ?_ ?_ | with_reducible exact pw_none | assumption
theorem pr_b_X5_splits_12 {T L : Nat → Nat} {M : gMem} {s0 : Int32} (hT : mT M = T) (hL : mL M = L) : PW (QR T L) (b_X5_splits_12 M s0) := by
  unfold b_X5_splits_12
  repeat' first | with_reducible refine pw_ck ?_ | with_reducible refine pw_dr (fun _ => ?_) | with_reducible refine pw_if ?_ ?_ | with_reducible refine pw_lw ?_ | with_reducible refine pw_bd (T := T) (L := L) ?_ (fun _ _ _ _ => ?_) | with_reducible refine pw_bx (T := T) (L := L) ?_ (fun _ _ _ _ => ?_) (fun _ _ _ _ => ?_) | with_reducible refine pw_oI ?_ | with_reducible refine pw_some ?_ ?_ | with_reducible refine pw_inl ?_ ?_ | with_reducible exact pw_none | assumption
theorem pr_b_X5_splits_0 {T L : Nat → Nat} {M : gMem} {x0 : Nat} (hT : mT M = T) (hL : mL M = L) : PW (QR T L) (b_X5_splits_0 M x0) := by
  unfold b_X5_splits_0
  repeat' first | with_reducible refine pr_b_X5_splits_12 ?_ ?_ | with_reducible refine pw_ck ?_ | with_reducible refine pw_dr (fun _ => ?_) | with_reducible refine pw_if ?_ ?_ | with_reducible refine pw_lw ?_ | with_reducible refine pw_bd (T := T) (L := L) ?_ (fun _ _ _ _ => ?_) | with_reducible refine pw_bx (T := T) (L := L) ?_ (fun _ _ _ _ => ?_) (fun _ _ _ _ => ?_) | with_reducible refine pw_oI ?_ | with_reducible refine pw_some ?_ ?_ | with_reducible refine pw_inl ?_ ?_ | with_reducible exact pw_none | assumption
theorem pr_f_X5_splits {T L : Nat → Nat} {M : gMem} {x0 : Nat} (hT : mT M = T) (hL : mL M = L) : PW (QR T L) (f_X5_splits M x0) := by
  unfold f_X5_splits
  repeat' first | with_reducible refine pr_b_X5_splits_0 ?_ ?_ | with_reducible refine pw_ck ?_ | with_reducible refine pw_dr (fun _ => ?_) | with_reducible refine pw_if ?_ ?_ | with_reducible refine pw_lw ?_ | with_reducible refine pw_bd (T := T) (L := L) ?_ (fun _ _ _ _ => ?_) | with_reducible refine pw_bx (T := T) (L := L) ?_ (fun _ _ _ _ => ?_) (fun _ _ _ _ => ?_) | with_reducible refine pw_oI ?_ | with_reducible refine pw_some ?_ ?_ | with_reducible refine pw_inl ?_ ?_ | with_reducible exact pw_none | assumption
theorem pr_bb_X5_has_2 {T L : Nat → Nat} {M : gMem} {x0 : Nat} {x1 : Int32} {x2 : Int32} (hT : mT M = T) (hL : mL M = L) : PW (QS T L (QR T L)) (bb_X5_has_2 M x0 x1 x2) := by
  unfold bb_X5_has_2
  repeat' first | with_reducible refine pw_ck ?_ | with_reducible refine pw_dr (fun _ => ?_) | with_reducible refine pw_if ?_ ?_ | with_reducible refine pw_lw ?_ | with_reducible refine pw_bd (T := T) (L := L) ?_ (fun _ _ _ _ => ?_) | with_reducible refine pw_bx (T := T) (L := L) ?_ (fun _ _ _ _ => ?_) (fun _ _ _ _ => ?_) | with_reducible refine pw_oI ?_ | with_reducible refine pw_some ?_ ?_ | with_reducible refine pw_inl ?_ ?_ | with_reducible exact pw_none | assumption
theorem pr_lp_X5_has_2 {T L : Nat → Nat} {M : gMem} {x0 : Nat} {x1 : Int32} {x2 : Int32} (hT : mT M = T) (hL : mL M = L) : PW (QR T L) (lp_X5_has_2 M x0 x1 x2) := by
  unfold lp_X5_has_2
  exact pw_lp hT hL (fun _ _ hT hL => pr_bb_X5_has_2 hT hL)
theorem pr_b_X5_has_0 {T L : Nat → Nat} {M : gMem} {x0 : Nat} {x1 : Int32} (hT : mT M = T) (hL : mL M = L) : PW (QR T L) (b_X5_has_0 M x0 x1) := by
  unfold b_X5_has_0
  repeat' first | with_reducible refine pr_lp_X5_has_2 ?_ ?_ | with_reducible refine pw_ck ?_ | with_reducible refine pw_dr (fun _ => ?_) | with_reducible refine pw_if ?_ ?_ | with_reducible refine pw_lw ?_ | with_reducible refine pw_bd (T := T) (L := L) ?_ (fun _ _ _ _ => ?_) | with_reducible refine pw_bx (T := T) (L := L) ?_ (fun _ _ _ _ => ?_) (fun _ _ _ _ => ?_) | with_reducible refine pw_oI ?_ | with_reducible refine pw_some ?_ ?_ | with_reducible refine pw_inl ?_ ?_ | with_reducible exact pw_none | assumption
theorem pr_f_X5_has {T L : Nat → Nat} {M : gMem} {x0 : Nat} {x1 : Int32} (hT : mT M = T) (hL : mL M = L) : PW (QR T L) (f_X5_has M x0 x1) := by
  unfold f_X5_has
  repeat' first | with_reducible refine pr_b_X5_has_0 ?_ ?_ | with_reducible refine pw_ck ?_ | with_reducible refine pw_dr (fun _ => ?_) | with_reducible refine pw_if ?_ ?_ | with_reducible refine pw_lw ?_ | with_reducible refine pw_bd (T := T) (L := L) ?_ (fun _ _ _ _ => ?_) | with_reducible refine pw_bx (T := T) (L := L) ?_ (fun _ _ _ _ => ?_) (fun _ _ _ _ => ?_) | with_reducible refine pw_oI ?_ | with_reducible refine pw_some ?_ ?_ | with_reducible refine pw_inl ?_ ?_ | with_reducible exact pw_none | assumption
theorem pr_bb_X5_copyFrom_58 {T L : Nat → Nat} {M : gMem} {x0 : Nat} {x1 : Option Nat} {x2 : Int32} (hT : mT M = T) (hL : mL M = L) : PW (QS T L (QR T L)) (bb_X5_copyFrom_58 M x0 x1 x2) := by
  unfold bb_X5_copyFrom_58
  repeat' first | with_reducible refine pw_ck ?_ | with_reducible refine pw_dr (fun _ => ?_) | with_reducible refine pw_if ?_ ?_ | with_reducible refine pw_lw ?_ | with_reducible refine pw_bd (T := T) (L := L) ?_ (fun _ _ _ _ => ?_) | with_reducible refine pw_bx (T := T) (L := L) ?_ (fun _ _ _ _ => ?_) (fun _ _ _ _ => ?_) | with_reducible refine pw_oI ?_ | with_reducible refine pw_some ?_ ?_ | with_reducible refine pw_inl ?_ ?_ | with_reducible exact pw_none | assumption
theorem pr_lp_X5_copyFrom_58 {T L : Nat → Nat} {M : gMem} {x0 : Nat} {x1 : Option Nat} {x2 : Int32} (hT : mT M = T) (hL : mL M = L) : PW (QR T L) (lp_X5_copyFrom_58 M x0 x1 x2) := by
  unfold lp_X5_copyFrom_58
  exact pw_lp hT hL (fun _ _ hT hL => pr_bb_X5_copyFrom_58 hT hL)
theorem pr_b_X5_copyFrom_0 {T L : Nat → Nat} {M : gMem} {x0 : Nat} {x1 : Option Nat} (hT : mT M = T) (hL : mL M = L) : PW (QR T L) (b_X5_copyFrom_0 M x0 x1) := by
  unfold b_X5_copyFrom_0
  repeat' first | with_reducible refine pr_lp_X5_copyFrom_58 ?_ ?_ | with_reducible refine pw_ck ?_ | with_reducible refine pw_dr (fun _ => ?_) | with_reducible refine pw_if ?_ ?_ | with_reducible refine pw_lw ?_ | with_reducible refine pw_bd (T := T) (L := L) ?_ (fun _ _ _ _ => ?_) | with_reducible refine pw_bx (T := T) (L := L) ?_ (fun _ _ _ _ => ?_) (fun _ _ _ _ => ?_) | with_reducible refine pw_oI ?_ | with_reducible refine pw_some ?_ ?_ | with_reducible refine pw_inl ?_ ?_ | with_reducible exact pw_none | assumption
theorem pr_f_X5_copyFrom {T L : Nat → Nat} {M : gMem} {x0 : Nat} {x1 : Option Nat} (hT : mT M = T) (hL : mL M = L) : PW (QR T L) (f_X5_copyFrom M x0 x1) := by
  unfold f_X5_copyFrom
  repeat' first | with_reducible refine pr_b_X5_copyFrom_0 ?_ ?_ | with_reducible refine pw_ck ?_ | with_reducible refine pw_dr (fun _ => ?_) | with_reducible refine pw_if ?_ ?_ | with_reducible refine pw_lw ?_ | with_reducible refine pw_bd (T := T) (L := L) ?_ (fun _ _ _ _ => ?_) | with_reducible refine pw_bx (T := T) (L := L) ?_ (fun _ _ _ _ => ?_) (fun _ _ _ _ => ?_) | with_reducible refine pw_oI ?_ | with_reducible refine pw_some ?_ ?_ | with_reducible refine pw_inl ?_ ?_ | with_reducible exact pw_none | assumption
theorem pr_bb_X9_copyFrom_10 {T L : Nat → Nat} {Z : Nat → Nat} {M : gMem} {x0 : Nat} {x1 : Option Nat} {x2 : Int32} (hT : mT M = T) (hL : mL M = L) : PW (QS T L (QR T L)) (bb_X9_copyFrom_10 Z M x0 x1 x2) := by
  unfold bb_X9_copyFrom_10
  repeat' first | with_reducible refine pw_ck ?_ | with_reducible refine pw_dr (fun _ => ?_) | with_reducible refine pw_if ?_ ?_ | with_reducible refine pw_lw ?_ | with_reducible refine pw_bd (T := T) (L := L) ?_ (fun _ _ _ _ => ?_) | with_reducible refine pw_bx (T := T) (L := L) ?_ (fun _ _ _ _ => ?_) (fun _ _ _ _ => ?_) | with_reducible refine pw_oI ?_ | with_reducible refine pw_some ?_ ?_ | with_reducible refine pw_inl ?_ ?_ | with_reducible exact pw_none | assumption
theorem pr_lp_X9_copyFrom_10 {T L : Nat → Nat} {Z : Nat → Nat} {M : gMem} {x0 : Nat} {x1 : Option Nat} {x2 : Int32} (hT : mT M = T) (hL : mL M = L) : PW (QR T L) (lp_X9_copyFrom_10 Z M x0 x1 x2) := by
  unfold lp_X9_copyFrom_10
  exact pw_lp hT hL (fun _ _ hT hL => pr_bb_X9_copyFrom_10 hT hL)
theorem pr_b_X9_copyFrom_0 {T L : Nat → Nat} {Z : Nat → Nat} {M : gMem} {x0 : Nat} {x1 : Option Nat} (hT : mT M = T) (hL : mL M = L) : PW (QR T L) (b_X9_copyFrom_0 Z M x0 x1) := by
  unfold b_X9_copyFrom_0
  repeat' first | with_reducible refine pr_lp_X9_copyFrom_10 ?_ ?_ | with_reducible refine pw_ck ?_ | with_reducible refine pw_dr (fun _ => ?_) | with_reducible refine pw_if ?_ ?_ | with_reducible refine pw_lw ?_ | with_reducible refine pw_bd (T := T) (L := L) ?_ (fun _ _ _ _ => ?_) | with_reducible refine pw_bx (T := T) (L := L) ?_ (fun _ _ _ _ => ?_) (fun _ _ _ _ => ?_) | with_reducible refine pw_oI ?_ | with_reducible refine pw_some ?_ ?_ | with_reducible refine pw_inl ?_ ?_ | with_reducible exact pw_none | assumption
theorem pr_f_X9_copyFrom {T L : Nat → Nat} {Z : Nat → Nat} {M : gMem} {x0 : Nat} {x1 : Option Nat} (hT : mT M = T) (hL : mL M = L) : PW (QR T L) (f_X9_copyFrom Z M x0 x1) := by
  unfold f_X9_copyFrom
  repeat' first | with_reducible refine pr_b_X9_copyFrom_0 ?_ ?_ | with_reducible refine pw_ck ?_ | with_reducible refine pw_dr (fun _ => ?_) | with_reducible refine pw_if ?_ ?_ | with_reducible refine pw_lw ?_ | with_reducible refine pw_bd (T := T) (L := L) ?_ (fun _ _ _ _ => ?_) | with_reducible refine pw_bx (T := T) (L := L) ?_ (fun _ _ _ _ => ?_) (fun _ _ _ _ => ?_) | with_reducible refine pw_oI ?_ | with_reducible refine pw_some ?_ ?_ | with_reducible refine pw_inl ?_ ?_ | with_reducible exact pw_none | assumption
theorem pr_b_X9_valueOn_149 {T L : Nat → Nat} {Z : Nat → Nat} {M : gMem} {x2 : Int32} (hT : mT M = T) (hL : mL M = L) : PW (QR T L) (b_X9_valueOn_149 Z M x2) := by
  unfold b_X9_valueOn_149
  repeat' first | with_reducible refine pw_ck ?_ | with_reducible refine pw_dr (fun _ => ?_) | with_reducible refine pw_if ?_ ?_ | with_reducible refine pw_lw ?_ | with_reducible refine pw_bd (T := T) (L := L) ?_ (fun _ _ _ _ => ?_) | with_reducible refine pw_bx (T := T) (L := L) ?_ (fun _ _ _ _ => ?_) (fun _ _ _ _ => ?_) | with_reducible refine pw_oI ?_ | with_reducible refine pw_some ?_ ?_ | with_reducible refine pw_inl ?_ ?_ | with_reducible exact pw_none | assumption
theorem pr_b_X9_valueOn_128 {T L : Nat → Nat} {Z : Nat → Nat} {M : gMem} {s0 : Int32} (hT : mT M = T) (hL : mL M = L) : PW (QR T L) (b_X9_valueOn_128 Z M s0) := by
  unfold b_X9_valueOn_128
  repeat' first | with_reducible refine pw_ck ?_ | with_reducible refine pw_dr (fun _ => ?_) | with_reducible refine pw_if ?_ ?_ | with_reducible refine pw_lw ?_ | with_reducible refine pw_bd (T := T) (L := L) ?_ (fun _ _ _ _ => ?_) | with_reducible refine pw_bx (T := T) (L := L) ?_ (fun _ _ _ _ => ?_) (fun _ _ _ _ => ?_) | with_reducible refine pw_oI ?_ | with_reducible refine pw_some ?_ ?_ | with_reducible refine pw_inl ?_ ?_ | with_reducible exact pw_none | assumption
set_option maxRecDepth 100000 in
theorem pr_b_X9_valueOn_0 {T L : Nat → Nat} {Z : Nat → Nat} {M : gMem} {x0 : Option Nat} {x1 : Option Nat} {x2 : Int32} (hT : mT M = T) (hL : mL M = L) : PW (QR T L) (b_X9_valueOn_0 Z M x0 x1 x2) := by
  unfold b_X9_valueOn_0
  repeat' first | with_reducible refine pr_b_X9_valueOn_128 ?_ ?_ | with_reducible refine pr_b_X9_valueOn_149 ?_ ?_ | with_reducible refine pr_f_X3_allFish ?_ ?_ | with_reducible refine pw_ck ?_ | with_reducible refine pw_dr (fun _ => ?_) | with_reducible refine pw_if ?_ ?_ | with_reducible refine pw_lw ?_ | with_reducible refine pw_bd (T := T) (L := L) ?_ (fun _ _ _ _ => ?_) | with_reducible refine pw_bx (T := T) (L := L) ?_ (fun _ _ _ _ => ?_) (fun _ _ _ _ => ?_) | with_reducible refine pw_oI ?_ | with_reducible refine pw_some ?_ ?_ | with_reducible refine pw_inl ?_ ?_ | with_reducible exact pw_none | assumption
theorem pr_f_X9_valueOn {T L : Nat → Nat} {Z : Nat → Nat} {M : gMem} {x0 : Option Nat} {x1 : Option Nat} {x2 : Int32} (hT : mT M = T) (hL : mL M = L) : PW (QR T L) (f_X9_valueOn Z M x0 x1 x2) := by
  unfold f_X9_valueOn
  repeat' first | with_reducible refine pr_b_X9_valueOn_0 ?_ ?_ | with_reducible refine pw_ck ?_ | with_reducible refine pw_dr (fun _ => ?_) | with_reducible refine pw_if ?_ ?_ | with_reducible refine pw_lw ?_ | with_reducible refine pw_bd (T := T) (L := L) ?_ (fun _ _ _ _ => ?_) | with_reducible refine pw_bx (T := T) (L := L) ?_ (fun _ _ _ _ => ?_) (fun _ _ _ _ => ?_) | with_reducible refine pw_oI ?_ | with_reducible refine pw_some ?_ ?_ | with_reducible refine pw_inl ?_ ?_ | with_reducible exact pw_none | assumption
theorem pr_b_X9_combine_211 {T L : Nat → Nat} {Z : Nat → Nat} {M : gMem} (hT : mT M = T) (hL : mL M = L) : PW (QR T L) (b_X9_combine_211 Z M) := by
  unfold b_X9_combine_211
  repeat' first | with_reducible refine pw_ck ?_ | with_reducible refine pw_dr (fun _ => ?_) | with_reducible refine pw_if ?_ ?_ | with_reducible refine pw_lw ?_ | with_reducible refine pw_bd (T := T) (L := L) ?_ (fun _ _ _ _ => ?_) | with_reducible refine pw_bx (T := T) (L := L) ?_ (fun _ _ _ _ => ?_) (fun _ _ _ _ => ?_) | with_reducible refine pw_oI ?_ | with_reducible refine pw_some ?_ ?_ | with_reducible refine pw_inl ?_ ?_ | with_reducible exact pw_none | assumption
theorem pr_b_X9_combine_210 {T L : Nat → Nat} {Z : Nat → Nat} {M : gMem} {s0 : Int32} (hT : mT M = T) (hL : mL M = L) : PW (QR T L) (b_X9_combine_210 Z M s0) := by
  unfold b_X9_combine_210
  repeat' first | with_reducible refine pw_ck ?_ | with_reducible refine pw_dr (fun _ => ?_) | with_reducible refine pw_if ?_ ?_ | with_reducible refine pw_lw ?_ | with_reducible refine pw_bd (T := T) (L := L) ?_ (fun _ _ _ _ => ?_) | with_reducible refine pw_bx (T := T) (L := L) ?_ (fun _ _ _ _ => ?_) (fun _ _ _ _ => ?_) | with_reducible refine pw_oI ?_ | with_reducible refine pw_some ?_ ?_ | with_reducible refine pw_inl ?_ ?_ | with_reducible exact pw_none | assumption
theorem pr_b_X9_combine_199 {T L : Nat → Nat} {Z : Nat → Nat} {M : gMem} {s0 : Int32} (hT : mT M = T) (hL : mL M = L) : PW (QR T L) (b_X9_combine_199 Z M s0) := by
  unfold b_X9_combine_199
  repeat' first | with_reducible refine pw_ck ?_ | with_reducible refine pw_dr (fun _ => ?_) | with_reducible refine pw_if ?_ ?_ | with_reducible refine pw_lw ?_ | with_reducible refine pw_bd (T := T) (L := L) ?_ (fun _ _ _ _ => ?_) | with_reducible refine pw_bx (T := T) (L := L) ?_ (fun _ _ _ _ => ?_) (fun _ _ _ _ => ?_) | with_reducible refine pw_oI ?_ | with_reducible refine pw_some ?_ ?_ | with_reducible refine pw_inl ?_ ?_ | with_reducible exact pw_none | assumption
theorem pr_b_X9_combine_188 {T L : Nat → Nat} {Z : Nat → Nat} {M : gMem} {s0 : Int32} (hT : mT M = T) (hL : mL M = L) : PW (QR T L) (b_X9_combine_188 Z M s0) := by
  unfold b_X9_combine_188
  repeat' first | with_reducible refine pw_ck ?_ | with_reducible refine pw_dr (fun _ => ?_) | with_reducible refine pw_if ?_ ?_ | with_reducible refine pw_lw ?_ | with_reducible refine pw_bd (T := T) (L := L) ?_ (fun _ _ _ _ => ?_) | with_reducible refine pw_bx (T := T) (L := L) ?_ (fun _ _ _ _ => ?_) (fun _ _ _ _ => ?_) | with_reducible refine pw_oI ?_ | with_reducible refine pw_some ?_ ?_ | with_reducible refine pw_inl ?_ ?_ | with_reducible exact pw_none | assumption
theorem pr_b_X9_combine_177 {T L : Nat → Nat} {Z : Nat → Nat} {M : gMem} {s0 : Int32} (hT : mT M = T) (hL : mL M = L) : PW (QR T L) (b_X9_combine_177 Z M s0) := by
  unfold b_X9_combine_177
  repeat' first | with_reducible refine pw_ck ?_ | with_reducible refine pw_dr (fun _ => ?_) | with_reducible refine pw_if ?_ ?_ | with_reducible refine pw_lw ?_ | with_reducible refine pw_bd (T := T) (L := L) ?_ (fun _ _ _ _ => ?_) | with_reducible refine pw_bx (T := T) (L := L) ?_ (fun _ _ _ _ => ?_) (fun _ _ _ _ => ?_) | with_reducible refine pw_oI ?_ | with_reducible refine pw_some ?_ ?_ | with_reducible refine pw_inl ?_ ?_ | with_reducible exact pw_none | assumption
theorem pr_b_X9_combine_166 {T L : Nat → Nat} {Z : Nat → Nat} {M : gMem} {s0 : Int32} (hT : mT M = T) (hL : mL M = L) : PW (QR T L) (b_X9_combine_166 Z M s0) := by
  unfold b_X9_combine_166
  repeat' first | with_reducible refine pw_ck ?_ | with_reducible refine pw_dr (fun _ => ?_) | with_reducible refine pw_if ?_ ?_ | with_reducible refine pw_lw ?_ | with_reducible refine pw_bd (T := T) (L := L) ?_ (fun _ _ _ _ => ?_) | with_reducible refine pw_bx (T := T) (L := L) ?_ (fun _ _ _ _ => ?_) (fun _ _ _ _ => ?_) | with_reducible refine pw_oI ?_ | with_reducible refine pw_some ?_ ?_ | with_reducible refine pw_inl ?_ ?_ | with_reducible exact pw_none | assumption
theorem pr_b_X9_combine_135 {T L : Nat → Nat} {Z : Nat → Nat} {M : gMem} {s0 : Int32} (hT : mT M = T) (hL : mL M = L) : PW (QR T L) (b_X9_combine_135 Z M s0) := by
  unfold b_X9_combine_135
  repeat' first | with_reducible refine pw_ck ?_ | with_reducible refine pw_dr (fun _ => ?_) | with_reducible refine pw_if ?_ ?_ | with_reducible refine pw_lw ?_ | with_reducible refine pw_bd (T := T) (L := L) ?_ (fun _ _ _ _ => ?_) | with_reducible refine pw_bx (T := T) (L := L) ?_ (fun _ _ _ _ => ?_) (fun _ _ _ _ => ?_) | with_reducible refine pw_oI ?_ | with_reducible refine pw_some ?_ ?_ | with_reducible refine pw_inl ?_ ?_ | with_reducible exact pw_none | assumption
set_option maxRecDepth 100000 in
theorem pr_b_X9_combine_0 {T L : Nat → Nat} {Z : Nat → Nat} {M : gMem} {x0 : Option Nat} {x1 : Int32} {x2 : Int32} (hT : mT M = T) (hL : mL M = L) : PW (QR T L) (b_X9_combine_0 Z M x0 x1 x2) := by
  unfold b_X9_combine_0
  repeat' first | with_reducible refine pr_b_X9_combine_166 ?_ ?_ | with_reducible refine pr_b_X9_combine_177 ?_ ?_ | with_reducible refine pr_b_X9_combine_188 ?_ ?_ | with_reducible refine pr_b_X9_combine_199 ?_ ?_ | with_reducible refine pr_b_X9_combine_210 ?_ ?_ | with_reducible refine pr_b_X9_combine_211 ?_ ?_ | with_reducible refine pr_b_X9_combine_135 ?_ ?_ | with_reducible refine pw_ck ?_ | with_reducible refine pw_dr (fun _ => ?_) | with_reducible refine pw_if ?_ ?_ | with_reducible refine pw_lw ?_ | with_reducible refine pw_bd (T := T) (L := L) ?_ (fun _ _ _ _ => ?_) | with_reducible refine pw_bx (T := T) (L := L) ?_ (fun _ _ _ _ => ?_) (fun _ _ _ _ => ?_) | with_reducible refine pw_oI ?_ | with_reducible refine pw_some ?_ ?_ | with_reducible refine pw_inl ?_ ?_ | with_reducible exact pw_none | assumption
theorem pr_f_X9_combine {T L : Nat → Nat} {Z : Nat → Nat} {M : gMem} {x0 : Option Nat} {x1 : Int32} {x2 : Int32} (hT : mT M = T) (hL : mL M = L) : PW (QR T L) (f_X9_combine Z M x0 x1 x2) := by
  unfold f_X9_combine
  repeat' first | with_reducible refine pr_b_X9_combine_0 ?_ ?_ | with_reducible refine pw_ck ?_ | with_reducible refine pw_dr (fun _ => ?_) | with_reducible refine pw_if ?_ ?_ | with_reducible refine pw_lw ?_ | with_reducible refine pw_bd (T := T) (L := L) ?_ (fun _ _ _ _ => ?_) | with_reducible refine pw_bx (T := T) (L := L) ?_ (fun _ _ _ _ => ?_) (fun _ _ _ _ => ?_) | with_reducible refine pw_oI ?_ | with_reducible refine pw_some ?_ ?_ | with_reducible refine pw_inl ?_ ?_ | with_reducible exact pw_none | assumption
set_option maxRecDepth 100000 in
theorem pr_b_X9_reckon_289 {T L : Nat → Nat} {Z : Nat → Nat} {M : gMem} {s0 : Int32} (hT : mT M = T) (hL : mL M = L) : PW (QR T L) (b_X9_reckon_289 Z M s0) := by
  unfold b_X9_reckon_289
  repeat' first | with_reducible refine pw_ck ?_ | with_reducible refine pw_dr (fun _ => ?_) | with_reducible refine pw_if ?_ ?_ | with_reducible refine pw_lw ?_ | with_reducible refine pw_bd (T := T) (L := L) ?_ (fun _ _ _ _ => ?_) | with_reducible refine pw_bx (T := T) (L := L) ?_ (fun _ _ _ _ => ?_) (fun _ _ _ _ => ?_) | with_reducible refine pw_oI ?_ | with_reducible refine pw_some ?_ ?_ | with_reducible refine pw_inl ?_ ?_ | with_reducible exact pw_none | assumption
set_option maxRecDepth 100000 in
theorem pr_b_X9_reckon_274 {T L : Nat → Nat} {Z : Nat → Nat} {M : gMem} {x0 : Nat} {x4 : Int32} (hT : mT M = T) (hL : mL M = L) : PW (QR T L) (b_X9_reckon_274 Z M x0 x4) := by
  unfold b_X9_reckon_274
  repeat' first | with_reducible refine pr_b_X9_reckon_289 ?_ ?_ | with_reducible refine pw_ck ?_ | with_reducible refine pw_dr (fun _ => ?_) | with_reducible refine pw_if ?_ ?_ | with_reducible refine pw_lw ?_ | with_reducible refine pw_bd (T := T) (L := L) ?_ (fun _ _ _ _ => ?_) | with_reducible refine pw_bx (T := T) (L := L) ?_ (fun _ _ _ _ => ?_) (fun _ _ _ _ => ?_) | with_reducible refine pw_oI ?_ | with_reducible refine pw_some ?_ ?_ | with_reducible refine pw_inl ?_ ?_ | with_reducible exact pw_none | assumption
set_option maxRecDepth 100000 in
theorem pr_b_X9_reckon_268 {T L : Nat → Nat} {Z : Nat → Nat} {M : gMem} {x0 : Nat} {x2 : Int32} {x3 : Option Nat} {x4 : Int32} {x5 : Int32} (hT : mT M = T) (hL : mL M = L) : PW (QS T L (QR T L)) (b_X9_reckon_268 Z M x0 x2 x3 x4 x5) := by
  unfold b_X9_reckon_268
  repeat' first | with_reducible refine pw_ck ?_ | with_reducible refine pw_dr (fun _ => ?_) | with_reducible refine pw_if ?_ ?_ | with_reducible refine pw_lw ?_ | with_reducible refine pw_bd (T := T) (L := L) ?_ (fun _ _ _ _ => ?_) | with_reducible refine pw_bx (T := T) (L := L) ?_ (fun _ _ _ _ => ?_) (fun _ _ _ _ => ?_) | with_reducible refine pw_oI ?_ | with_reducible refine pw_some ?_ ?_ | with_reducible refine pw_inl ?_ ?_ | with_reducible exact pw_none | assumption
set_option maxRecDepth 100000 in
theorem pr_b_X9_reckon_224 {T L : Nat → Nat} {Z : Nat → Nat} {M : gMem} {x0 : Nat} {x2 : Int32} {x3 : Option Nat} {x4 : Int32} {x5 : Int32} (hT : mT M = T) (hL : mL M = L) : PW (QS T L (QR T L)) (b_X9_reckon_224 Z M x0 x2 x3 x4 x5) := by
  unfold b_X9_reckon_224
  repeat' first | with_reducible refine pr_b_X9_reckon_268 ?_ ?_ | with_reducible refine pr_f_X9_combine ?_ ?_ | with_reducible refine pw_ck ?_ | with_reducible refine pw_dr (fun _ => ?_) | with_reducible refine pw_if ?_ ?_ | with_reducible refine pw_lw ?_ | with_reducible refine pw_bd (T := T) (L := L) ?_ (fun _ _ _ _ => ?_) | with_reducible refine pw_bx (T := T) (L := L) ?_ (fun _ _ _ _ => ?_) (fun _ _ _ _ => ?_) | with_reducible refine pw_oI ?_ | with_reducible refine pw_some ?_ ?_ | with_reducible refine pw_inl ?_ ?_ | with_reducible exact pw_none | assumption
set_option maxRecDepth 100000 in
theorem pr_b_X9_reckon_220 {T L : Nat → Nat} {Z : Nat → Nat} {M : gMem} {x0 : Nat} {x2 : Int32} {x3 : Option Nat} {x4 : Int32} {x5 : Int32} {s0 : Option Nat} {s1 : Int32} {s2 : Int32} (hT : mT M = T) (hL : mL M = L) : PW (QS T L (QR T L)) (b_X9_reckon_220 Z M x0 x2 x3 x4 x5 s0 s1 s2) := by
  unfold b_X9_reckon_220
  repeat' first | with_reducible refine pr_b_X9_reckon_268 ?_ ?_ | with_reducible refine pw_ck ?_ | with_reducible refine pw_dr (fun _ => ?_) | with_reducible refine pw_if ?_ ?_ | with_reducible refine pw_lw ?_ | with_reducible refine pw_bd (T := T) (L := L) ?_ (fun _ _ _ _ => ?_) | with_reducible refine pw_bx (T := T) (L := L) ?_ (fun _ _ _ _ => ?_) (fun _ _ _ _ => ?_) | with_reducible refine pw_oI ?_ | with_reducible refine pw_some ?_ ?_ | with_reducible refine pw_inl ?_ ?_ | with_reducible exact pw_none | assumption
set_option maxRecDepth 100000 in
theorem pr_b_X9_reckon_169 {T L : Nat → Nat} {Z : Nat → Nat} {M : gMem} {x0 : Nat} {x2 : Int32} {x3 : Option Nat} {x4 : Int32} {x5 : Int32} (hT : mT M = T) (hL : mL M = L) : PW (QS T L (QR T L)) (b_X9_reckon_169 Z M x0 x2 x3 x4 x5) := by
  unfold b_X9_reckon_169
  repeat' first | with_reducible refine pr_b_X9_reckon_268 ?_ ?_ | with_reducible refine pr_b_X9_reckon_220 ?_ ?_ | with_reducible refine pw_ck ?_ | with_reducible refine pw_dr (fun _ => ?_) | with_reducible refine pw_if ?_ ?_ | with_reducible refine pw_lw ?_ | with_reducible refine pw_bd (T := T) (L := L) ?_ (fun _ _ _ _ => ?_) | with_reducible refine pw_bx (T := T) (L := L) ?_ (fun _ _ _ _ => ?_) (fun _ _ _ _ => ?_) | with_reducible refine pw_oI ?_ | with_reducible refine pw_some ?_ ?_ | with_reducible refine pw_inl ?_ ?_ | with_reducible exact pw_none | assumption
set_option maxRecDepth 100000 in
theorem pr_b_X9_reckon_128 {T L : Nat → Nat} {Z : Nat → Nat} {M : gMem} {x0 : Nat} {x2 : Int32} {x3 : Option Nat} {x4 : Int32} {x5 : Int32} (hT : mT M = T) (hL : mL M = L) : PW (QS T L (QR T L)) (b_X9_reckon_128 Z M x0 x2 x3 x4 x5) := by
  unfold b_X9_reckon_128
  repeat' first | with_reducible refine pr_b_X9_reckon_268 ?_ ?_ | with_reducible refine pr_f_X9_valueOn ?_ ?_ | with_reducible refine pw_ck ?_ | with_reducible refine pw_dr (fun _ => ?_) | with_reducible refine pw_if ?_ ?_ | with_reducible refine pw_lw ?_ | with_reducible refine pw_bd (T := T) (L := L) ?_ (fun _ _ _ _ => ?_) | with_reducible refine pw_bx (T := T) (L := L) ?_ (fun _ _ _ _ => ?_) (fun _ _ _ _ => ?_) | with_reducible refine pw_oI ?_ | with_reducible refine pw_some ?_ ?_ | with_reducible refine pw_inl ?_ ?_ | with_reducible exact pw_none | assumption
set_option maxRecDepth 100000 in
theorem pr_bb_X9_reckon_6 {T L : Nat → Nat} {Z : Nat → Nat} {M : gMem} {x0 : Nat} {x2 : Int32} {x3 : Option Nat} {x4 : Int32} {x5 : Int32} (hT : mT M = T) (hL : mL M = L) : PW (QS T L (QR T L)) (bb_X9_reckon_6 Z M x0 x2 x3 x4 x5) := by
  unfold bb_X9_reckon_6
  repeat' first | with_reducible refine pr_b_X9_reckon_274 ?_ ?_ | with_reducible refine pr_b_X9_reckon_169 ?_ ?_ | with_reducible refine pr_b_X9_reckon_224 ?_ ?_ | with_reducible refine pr_b_X9_reckon_128 ?_ ?_ | with_reducible refine pw_ck ?_ | with_reducible refine pw_dr (fun _ => ?_) | with_reducible refine pw_if ?_ ?_ | with_reducible refine pw_lw ?_ | with_reducible refine pw_bd (T := T) (L := L) ?_ (fun _ _ _ _ => ?_) | with_reducible refine pw_bx (T := T) (L := L) ?_ (fun _ _ _ _ => ?_) (fun _ _ _ _ => ?_) | with_reducible refine pw_oI ?_ | with_reducible refine pw_some ?_ ?_ | with_reducible refine pw_inl ?_ ?_ | with_reducible exact pw_none | assumption
theorem pr_lp_X9_reckon_6 {T L : Nat → Nat} {Z : Nat → Nat} {M : gMem} {x0 : Nat} {x2 : Int32} {x3 : Option Nat} {x4 : Int32} {x5 : Int32} (hT : mT M = T) (hL : mL M = L) : PW (QR T L) (lp_X9_reckon_6 Z M x0 x2 x3 x4 x5) := by
  unfold lp_X9_reckon_6
  exact pw_lp hT hL (fun _ _ hT hL => pr_bb_X9_reckon_6 hT hL)
set_option maxRecDepth 100000 in
theorem pr_b_X9_reckon_0 {T L : Nat → Nat} {Z : Nat → Nat} {M : gMem} {x0 : Nat} {x1 : Int32} {x2 : Int32} {x3 : Option Nat} (hT : mT M = T) (hL : mL M = L) : PW (QR T L) (b_X9_reckon_0 Z M x0 x1 x2 x3) := by
  unfold b_X9_reckon_0
  repeat' first | with_reducible refine pr_lp_X9_reckon_6 ?_ ?_ | with_reducible refine pw_ck ?_ | with_reducible refine pw_dr (fun _ => ?_) | with_reducible refine pw_if ?_ ?_ | with_reducible refine pw_lw ?_ | with_reducible refine pw_bd (T := T) (L := L) ?_ (fun _ _ _ _ => ?_) | with_reducible refine pw_bx (T := T) (L := L) ?_ (fun _ _ _ _ => ?_) (fun _ _ _ _ => ?_) | with_reducible refine pw_oI ?_ | with_reducible refine pw_some ?_ ?_ | with_reducible refine pw_inl ?_ ?_ | with_reducible exact pw_none | assumption
set_option maxRecDepth 100000 in
theorem pr_f_X9_reckon {T L : Nat → Nat} {Z : Nat → Nat} {M : gMem} {x0 : Nat} {x1 : Int32} {x2 : Int32} {x3 : Option Nat} (hT : mT M = T) (hL : mL M = L) : PW (QR T L) (f_X9_reckon Z M x0 x1 x2 x3) := by
  unfold f_X9_reckon
  repeat' first | with_reducible refine pr_b_X9_reckon_0 ?_ ?_ | with_reducible refine pw_ck ?_ | with_reducible refine pw_dr (fun _ => ?_) | with_reducible refine pw_if ?_ ?_ | with_reducible refine pw_lw ?_ | with_reducible refine pw_bd (T := T) (L := L) ?_ (fun _ _ _ _ => ?_) | with_reducible refine pw_bx (T := T) (L := L) ?_ (fun _ _ _ _ => ?_) (fun _ _ _ _ => ?_) | with_reducible refine pw_oI ?_ | with_reducible refine pw_some ?_ ?_ | with_reducible refine pw_inl ?_ ?_ | with_reducible exact pw_none | assumption
theorem pr_bb_X7_copyFrom_143 {T L : Nat → Nat} {Z : Nat → Nat} {M : gMem} {x0 : Nat} {x1 : Option Nat} {x2 : Int32} (hT : mT M = T) (hL : mL M = L) : PW (QS T L (QR T L)) (bb_X7_copyFrom_143 Z M x0 x1 x2) := by
  unfold bb_X7_copyFrom_143
  repeat' first | with_reducible refine pr_f_X9_copyFrom ?_ ?_ | with_reducible refine pr_f_X5_copyFrom ?_ ?_ | with_reducible refine pw_ck ?_ | with_reducible refine pw_dr (fun _ => ?_) | with_reducible refine pw_if ?_ ?_ | with_reducible refine pw_lw ?_ | with_reducible refine pw_bd (T := T) (L := L) ?_ (fun _ _ _ _ => ?_) | with_reducible refine pw_bx (T := T) (L := L) ?_ (fun _ _ _ _ => ?_) (fun _ _ _ _ => ?_) | with_reducible refine pw_oI ?_ | with_reducible refine pw_some ?_ ?_ | with_reducible refine pw_inl ?_ ?_ | with_reducible exact pw_none | assumption
theorem pr_lp_X7_copyFrom_143 {T L : Nat → Nat} {Z : Nat → Nat} {M : gMem} {x0 : Nat} {x1 : Option Nat} {x2 : Int32} (hT : mT M = T) (hL : mL M = L) : PW (QR T L) (lp_X7_copyFrom_143 Z M x0 x1 x2) := by
  unfold lp_X7_copyFrom_143
  exact pw_lp hT hL (fun _ _ hT hL => pr_bb_X7_copyFrom_143 hT hL)
theorem pr_bb_X7_copyFrom_112 {T L : Nat → Nat} {Z : Nat → Nat} {M : gMem} {x0 : Nat} {x1 : Option Nat} {x2 : Int32} (hT : mT M = T) (hL : mL M = L) : PW (QS T L (QR T L)) (bb_X7_copyFrom_112 Z M x0 x1 x2) := by
  unfold bb_X7_copyFrom_112
  repeat' first | with_reducible refine pr_lp_X7_copyFrom_143 ?_ ?_ | with_reducible refine pr_f_X2_copyFrom ?_ ?_ | with_reducible refine pw_ck ?_ | with_reducible refine pw_dr (fun _ => ?_) | with_reducible refine pw_if ?_ ?_ | with_reducible refine pw_lw ?_ | with_reducible refine pw_bd (T := T) (L := L) ?_ (fun _ _ _ _ => ?_) | with_reducible refine pw_bx (T := T) (L := L) ?_ (fun _ _ _ _ => ?_) (fun _ _ _ _ => ?_) | with_reducible refine pw_oI ?_ | with_reducible refine pw_some ?_ ?_ | with_reducible refine pw_inl ?_ ?_ | with_reducible exact pw_none | assumption
theorem pr_lp_X7_copyFrom_112 {T L : Nat → Nat} {Z : Nat → Nat} {M : gMem} {x0 : Nat} {x1 : Option Nat} {x2 : Int32} (hT : mT M = T) (hL : mL M = L) : PW (QR T L) (lp_X7_copyFrom_112 Z M x0 x1 x2) := by
  unfold lp_X7_copyFrom_112
  exact pw_lp hT hL (fun _ _ hT hL => pr_bb_X7_copyFrom_112 hT hL)
theorem pr_bb_X7_copyFrom_81 {T L : Nat → Nat} {Z : Nat → Nat} {M : gMem} {x0 : Nat} {x1 : Option Nat} {x2 : Int32} (hT : mT M = T) (hL : mL M = L) : PW (QS T L (QR T L)) (bb_X7_copyFrom_81 Z M x0 x1 x2) := by
  unfold bb_X7_copyFrom_81
  repeat' first | with_reducible refine pr_lp_X7_copyFrom_112 ?_ ?_ | with_reducible refine pr_f_X1_copyFrom ?_ ?_ | with_reducible refine pw_ck ?_ | with_reducible refine pw_dr (fun _ => ?_) | with_reducible refine pw_if ?_ ?_ | with_reducible refine pw_lw ?_ | with_reducible refine pw_bd (T := T) (L := L) ?_ (fun _ _ _ _ => ?_) | with_reducible refine pw_bx (T := T) (L := L) ?_ (fun _ _ _ _ => ?_) (fun _ _ _ _ => ?_) | with_reducible refine pw_oI ?_ | with_reducible refine pw_some ?_ ?_ | with_reducible refine pw_inl ?_ ?_ | with_reducible exact pw_none | assumption
theorem pr_lp_X7_copyFrom_81 {T L : Nat → Nat} {Z : Nat → Nat} {M : gMem} {x0 : Nat} {x1 : Option Nat} {x2 : Int32} (hT : mT M = T) (hL : mL M = L) : PW (QR T L) (lp_X7_copyFrom_81 Z M x0 x1 x2) := by
  unfold lp_X7_copyFrom_81
  exact pw_lp hT hL (fun _ _ hT hL => pr_bb_X7_copyFrom_81 hT hL)
theorem pr_bb_X7_copyFrom_50 {T L : Nat → Nat} {Z : Nat → Nat} {M : gMem} {x0 : Nat} {x1 : Option Nat} {x2 : Int32} (hT : mT M = T) (hL : mL M = L) : PW (QS T L (QR T L)) (bb_X7_copyFrom_50 Z M x0 x1 x2) := by
  unfold bb_X7_copyFrom_50
  repeat' first | with_reducible refine pr_lp_X7_copyFrom_81 ?_ ?_ | with_reducible refine pr_f_X3_copyFrom ?_ ?_ | with_reducible refine pw_ck ?_ | with_reducible refine pw_dr (fun _ => ?_) | with_reducible refine pw_if ?_ ?_ | with_reducible refine pw_lw ?_ | with_reducible refine pw_bd (T := T) (L := L) ?_ (fun _ _ _ _ => ?_) | with_reducible refine pw_bx (T := T) (L := L) ?_ (fun _ _ _ _ => ?_) (fun _ _ _ _ => ?_) | with_reducible refine pw_oI ?_ | with_reducible refine pw_some ?_ ?_ | with_reducible refine pw_inl ?_ ?_ | with_reducible exact pw_none | assumption
theorem pr_lp_X7_copyFrom_50 {T L : Nat → Nat} {Z : Nat → Nat} {M : gMem} {x0 : Nat} {x1 : Option Nat} {x2 : Int32} (hT : mT M = T) (hL : mL M = L) : PW (QR T L) (lp_X7_copyFrom_50 Z M x0 x1 x2) := by
  unfold lp_X7_copyFrom_50
  exact pw_lp hT hL (fun _ _ hT hL => pr_bb_X7_copyFrom_50 hT hL)
theorem pr_b_X7_copyFrom_0 {T L : Nat → Nat} {Z : Nat → Nat} {M : gMem} {x0 : Nat} {x1 : Option Nat} (hT : mT M = T) (hL : mL M = L) : PW (QR T L) (b_X7_copyFrom_0 Z M x0 x1) := by
  unfold b_X7_copyFrom_0
  repeat' first | with_reducible refine pr_lp_X7_copyFrom_50 ?_ ?_ | with_reducible refine pw_ck ?_ | with_reducible refine pw_dr (fun _ => ?_) | with_reducible refine pw_if ?_ ?_ | with_reducible refine pw_lw ?_ | with_reducible refine pw_bd (T := T) (L := L) ?_ (fun _ _ _ _ => ?_) | with_reducible refine pw_bx (T := T) (L := L) ?_ (fun _ _ _ _ => ?_) (fun _ _ _ _ => ?_) | with_reducible refine pw_oI ?_ | with_reducible refine pw_some ?_ ?_ | with_reducible refine pw_inl ?_ ?_ | with_reducible exact pw_none | assumption
theorem pr_f_X7_copyFrom {T L : Nat → Nat} {Z : Nat → Nat} {M : gMem} {x0 : Nat} {x1 : Option Nat} (hT : mT M = T) (hL : mL M = L) : PW (QR T L) (f_X7_copyFrom Z M x0 x1) := by
  unfold f_X7_copyFrom
  repeat' first | with_reducible refine pr_b_X7_copyFrom_0 ?_ ?_ | with_reducible refine pw_ck ?_ | with_reducible refine pw_dr (fun _ => ?_) | with_reducible refine pw_if ?_ ?_ | with_reducible refine pw_lw ?_ | with_reducible refine pw_bd (T := T) (L := L) ?_ (fun _ _ _ _ => ?_) | with_reducible refine pw_bx (T := T) (L := L) ?_ (fun _ _ _ _ => ?_) (fun _ _ _ _ => ?_) | with_reducible refine pw_oI ?_ | with_reducible refine pw_some ?_ ?_ | with_reducible refine pw_inl ?_ ?_ | with_reducible exact pw_none | assumption
theorem pr_bb_X7_allFish_4 {T L : Nat → Nat} {M : gMem} {x0 : Nat} {x1 : Int32} {x2 : Int32} (hT : mT M = T) (hL : mL M = L) : PW (QS T L (QR T L)) (bb_X7_allFish_4 M x0 x1 x2) := by
  unfold bb_X7_allFish_4
  repeat' first | with_reducible refine pr_f_X3_allFish ?_ ?_ | with_reducible refine pw_ck ?_ | with_reducible refine pw_dr (fun _ => ?_) | with_reducible refine pw_if ?_ ?_ | with_reducible refine pw_lw ?_ | with_reducible refine pw_bd (T := T) (L := L) ?_ (fun _ _ _ _ => ?_) | with_reducible refine pw_bx (T := T) (L := L) ?_ (fun _ _ _ _ => ?_) (fun _ _ _ _ => ?_) | with_reducible refine pw_oI ?_ | with_reducible refine pw_some ?_ ?_ | with_reducible refine pw_inl ?_ ?_ | with_reducible exact pw_none | assumption
theorem pr_lp_X7_allFish_4 {T L : Nat → Nat} {M : gMem} {x0 : Nat} {x1 : Int32} {x2 : Int32} (hT : mT M = T) (hL : mL M = L) : PW (QR T L) (lp_X7_allFish_4 M x0 x1 x2) := by
  unfold lp_X7_allFish_4
  exact pw_lp hT hL (fun _ _ hT hL => pr_bb_X7_allFish_4 hT hL)
theorem pr_b_X7_allFish_0 {T L : Nat → Nat} {M : gMem} {x0 : Nat} (hT : mT M = T) (hL : mL M = L) : PW (QR T L) (b_X7_allFish_0 M x0) := by
  unfold b_X7_allFish_0
  repeat' first | with_reducible refine pr_lp_X7_allFish_4 ?_ ?_ | with_reducible refine pw_ck ?_ | with_reducible refine pw_dr (fun _ => ?_) | with_reducible refine pw_if ?_ ?_ | with_reducible refine pw_lw ?_ | with_reducible refine pw_bd (T := T) (L := L) ?_ (fun _ _ _ _ => ?_) | with_reducible refine pw_bx (T := T) (L := L) ?_ (fun _ _ _ _ => ?_) (fun _ _ _ _ => ?_) | with_reducible refine pw_oI ?_ | with_reducible refine pw_some ?_ ?_ | with_reducible refine pw_inl ?_ ?_ | with_reducible exact pw_none | assumption
theorem pr_f_X7_allFish {T L : Nat → Nat} {M : gMem} {x0 : Nat} (hT : mT M = T) (hL : mL M = L) : PW (QR T L) (f_X7_allFish M x0) := by
  unfold f_X7_allFish
  repeat' first | with_reducible refine pr_b_X7_allFish_0 ?_ ?_ | with_reducible refine pw_ck ?_ | with_reducible refine pw_dr (fun _ => ?_) | with_reducible refine pw_if ?_ ?_ | with_reducible refine pw_lw ?_ | with_reducible refine pw_bd (T := T) (L := L) ?_ (fun _ _ _ _ => ?_) | with_reducible refine pw_bx (T := T) (L := L) ?_ (fun _ _ _ _ => ?_) (fun _ _ _ _ => ?_) | with_reducible refine pw_oI ?_ | with_reducible refine pw_some ?_ ?_ | with_reducible refine pw_inl ?_ ?_ | with_reducible exact pw_none | assumption
theorem pr_bb_X7_allStores_4 {T L : Nat → Nat} {M : gMem} {x0 : Nat} {x1 : Int32} {x2 : Int32} (hT : mT M = T) (hL : mL M = L) : PW (QS T L (QR T L)) (bb_X7_allStores_4 M x0 x1 x2) := by
  unfold bb_X7_allStores_4
  repeat' first | with_reducible refine pw_ck ?_ | with_reducible refine pw_dr (fun _ => ?_) | with_reducible refine pw_if ?_ ?_ | with_reducible refine pw_lw ?_ | with_reducible refine pw_bd (T := T) (L := L) ?_ (fun _ _ _ _ => ?_) | with_reducible refine pw_bx (T := T) (L := L) ?_ (fun _ _ _ _ => ?_) (fun _ _ _ _ => ?_) | with_reducible refine pw_oI ?_ | with_reducible refine pw_some ?_ ?_ | with_reducible refine pw_inl ?_ ?_ | with_reducible exact pw_none | assumption
theorem pr_lp_X7_allStores_4 {T L : Nat → Nat} {M : gMem} {x0 : Nat} {x1 : Int32} {x2 : Int32} (hT : mT M = T) (hL : mL M = L) : PW (QR T L) (lp_X7_allStores_4 M x0 x1 x2) := by
  unfold lp_X7_allStores_4
  exact pw_lp hT hL (fun _ _ hT hL => pr_bb_X7_allStores_4 hT hL)
theorem pr_b_X7_allStores_0 {T L : Nat → Nat} {M : gMem} {x0 : Nat} (hT : mT M = T) (hL : mL M = L) : PW (QR T L) (b_X7_allStores_0 M x0) := by
  unfold b_X7_allStores_0
  repeat' first | with_reducible refine pr_lp_X7_allStores_4 ?_ ?_ | with_reducible refine pw_ck ?_ | with_reducible refine pw_dr (fun _ => ?_) | with_reducible refine pw_if ?_ ?_ | with_reducible refine pw_lw ?_ | with_reducible refine pw_bd (T := T) (L := L) ?_ (fun _ _ _ _ => ?_) | with_reducible refine pw_bx (T := T) (L := L) ?_ (fun _ _ _ _ => ?_) (fun _ _ _ _ => ?_) | with_reducible refine pw_oI ?_ | with_reducible refine pw_some ?_ ?_ | with_reducible refine pw_inl ?_ ?_ | with_reducible exact pw_none | assumption
theorem pr_f_X7_allStores {T L : Nat → Nat} {M : gMem} {x0 : Nat} (hT : mT M = T) (hL : mL M = L) : PW (QR T L) (f_X7_allStores M x0) := by
  unfold f_X7_allStores
  repeat' first | with_reducible refine pr_b_X7_allStores_0 ?_ ?_ | with_reducible refine pw_ck ?_ | with_reducible refine pw_dr (fun _ => ?_) | with_reducible refine pw_if ?_ ?_ | with_reducible refine pw_lw ?_ | with_reducible refine pw_bd (T := T) (L := L) ?_ (fun _ _ _ _ => ?_) | with_reducible refine pw_bx (T := T) (L := L) ?_ (fun _ _ _ _ => ?_) (fun _ _ _ _ => ?_) | with_reducible refine pw_oI ?_ | with_reducible refine pw_some ?_ ?_ | with_reducible refine pw_inl ?_ ?_ | with_reducible exact pw_none | assumption
theorem pr_b_X7_widenedNets_39 {T L : Nat → Nat} {M : gMem} {x0 : Nat} {x2 : Int32} {s0 : Int32} {s1 : Int32} (hT : mT M = T) (hL : mL M = L) : PW (QS T L (QR T L)) (b_X7_widenedNets_39 M x0 x2 s0 s1) := by
  unfold b_X7_widenedNets_39
  repeat' first | with_reducible refine pw_ck ?_ | with_reducible refine pw_dr (fun _ => ?_) | with_reducible refine pw_if ?_ ?_ | with_reducible refine pw_lw ?_ | with_reducible refine pw_bd (T := T) (L := L) ?_ (fun _ _ _ _ => ?_) | with_reducible refine pw_bx (T := T) (L := L) ?_ (fun _ _ _ _ => ?_) (fun _ _ _ _ => ?_) | with_reducible refine pw_oI ?_ | with_reducible refine pw_some ?_ ?_ | with_reducible refine pw_inl ?_ ?_ | with_reducible exact pw_none | assumption
theorem pr_bb_X7_widenedNets_4 {T L : Nat → Nat} {M : gMem} {x0 : Nat} {x1 : Int32} {x2 : Int32} (hT : mT M = T) (hL : mL M = L) : PW (QS T L (QR T L)) (bb_X7_widenedNets_4 M x0 x1 x2) := by
  unfold bb_X7_widenedNets_4
  repeat' first | with_reducible refine pr_b_X7_widenedNets_39 ?_ ?_ | with_reducible refine pw_ck ?_ | with_reducible refine pw_dr (fun _ => ?_) | with_reducible refine pw_if ?_ ?_ | with_reducible refine pw_lw ?_ | with_reducible refine pw_bd (T := T) (L := L) ?_ (fun _ _ _ _ => ?_) | with_reducible refine pw_bx (T := T) (L := L) ?_ (fun _ _ _ _ => ?_) (fun _ _ _ _ => ?_) | with_reducible refine pw_oI ?_ | with_reducible refine pw_some ?_ ?_ | with_reducible refine pw_inl ?_ ?_ | with_reducible exact pw_none | assumption
theorem pr_lp_X7_widenedNets_4 {T L : Nat → Nat} {M : gMem} {x0 : Nat} {x1 : Int32} {x2 : Int32} (hT : mT M = T) (hL : mL M = L) : PW (QR T L) (lp_X7_widenedNets_4 M x0 x1 x2) := by
  unfold lp_X7_widenedNets_4
  exact pw_lp hT hL (fun _ _ hT hL => pr_bb_X7_widenedNets_4 hT hL)
theorem pr_b_X7_widenedNets_0 {T L : Nat → Nat} {M : gMem} {x0 : Nat} (hT : mT M = T) (hL : mL M = L) : PW (QR T L) (b_X7_widenedNets_0 M x0) := by
  unfold b_X7_widenedNets_0
  repeat' first | with_reducible refine pr_lp_X7_widenedNets_4 ?_ ?_ | with_reducible refine pw_ck ?_ | with_reducible refine pw_dr (fun _ => ?_) | with_reducible refine pw_if ?_ ?_ | with_reducible refine pw_lw ?_ | with_reducible refine pw_bd (T := T) (L := L) ?_ (fun _ _ _ _ => ?_) | with_reducible refine pw_bx (T := T) (L := L) ?_ (fun _ _ _ _ => ?_) (fun _ _ _ _ => ?_) | with_reducible refine pw_oI ?_ | with_reducible refine pw_some ?_ ?_ | with_reducible refine pw_inl ?_ ?_ | with_reducible exact pw_none | assumption
theorem pr_f_X7_widenedNets {T L : Nat → Nat} {M : gMem} {x0 : Nat} (hT : mT M = T) (hL : mL M = L) : PW (QR T L) (f_X7_widenedNets M x0) := by
  unfold f_X7_widenedNets
  repeat' first | with_reducible refine pr_b_X7_widenedNets_0 ?_ ?_ | with_reducible refine pw_ck ?_ | with_reducible refine pw_dr (fun _ => ?_) | with_reducible refine pw_if ?_ ?_ | with_reducible refine pw_lw ?_ | with_reducible refine pw_bd (T := T) (L := L) ?_ (fun _ _ _ _ => ?_) | with_reducible refine pw_bx (T := T) (L := L) ?_ (fun _ _ _ _ => ?_) (fun _ _ _ _ => ?_) | with_reducible refine pw_oI ?_ | with_reducible refine pw_some ?_ ?_ | with_reducible refine pw_inl ?_ ?_ | with_reducible exact pw_none | assumption
theorem pr_b_X7_allCheats_30 {T L : Nat → Nat} {M : gMem} {x0 : Nat} {x2 : Int32} {s0 : Int32} {s1 : Int32} (hT : mT M = T) (hL : mL M = L) : PW (QS T L (QR T L)) (b_X7_allCheats_30 M x0 x2 s0 s1) := by
  unfold b_X7_allCheats_30
  repeat' first | with_reducible refine pw_ck ?_ | with_reducible refine pw_dr (fun _ => ?_) | with_reducible refine pw_if ?_ ?_ | with_reducible refine pw_lw ?_ | with_reducible refine pw_bd (T := T) (L := L) ?_ (fun _ _ _ _ => ?_) | with_reducible refine pw_bx (T := T) (L := L) ?_ (fun _ _ _ _ => ?_) (fun _ _ _ _ => ?_) | with_reducible refine pw_oI ?_ | with_reducible refine pw_some ?_ ?_ | with_reducible refine pw_inl ?_ ?_ | with_reducible exact pw_none | assumption
theorem pr_bb_X7_allCheats_4 {T L : Nat → Nat} {M : gMem} {x0 : Nat} {x1 : Int32} {x2 : Int32} (hT : mT M = T) (hL : mL M = L) : PW (QS T L (QR T L)) (bb_X7_allCheats_4 M x0 x1 x2) := by
  unfold bb_X7_allCheats_4
  repeat' first | with_reducible refine pr_b_X7_allCheats_30 ?_ ?_ | with_reducible refine pw_ck ?_ | with_reducible refine pw_dr (fun _ => ?_) | with_reducible refine pw_if ?_ ?_ | with_reducible refine pw_lw ?_ | with_reducible refine pw_bd (T := T) (L := L) ?_ (fun _ _ _ _ => ?_) | with_reducible refine pw_bx (T := T) (L := L) ?_ (fun _ _ _ _ => ?_) (fun _ _ _ _ => ?_) | with_reducible refine pw_oI ?_ | with_reducible refine pw_some ?_ ?_ | with_reducible refine pw_inl ?_ ?_ | with_reducible exact pw_none | assumption
theorem pr_lp_X7_allCheats_4 {T L : Nat → Nat} {M : gMem} {x0 : Nat} {x1 : Int32} {x2 : Int32} (hT : mT M = T) (hL : mL M = L) : PW (QR T L) (lp_X7_allCheats_4 M x0 x1 x2) := by
  unfold lp_X7_allCheats_4
  exact pw_lp hT hL (fun _ _ hT hL => pr_bb_X7_allCheats_4 hT hL)
theorem pr_b_X7_allCheats_0 {T L : Nat → Nat} {M : gMem} {x0 : Nat} (hT : mT M = T) (hL : mL M = L) : PW (QR T L) (b_X7_allCheats_0 M x0) := by
  unfold b_X7_allCheats_0
  repeat' first | with_reducible refine pr_lp_X7_allCheats_4 ?_ ?_ | with_reducible refine pw_ck ?_ | with_reducible refine pw_dr (fun _ => ?_) | with_reducible refine pw_if ?_ ?_ | with_reducible refine pw_lw ?_ | with_reducible refine pw_bd (T := T) (L := L) ?_ (fun _ _ _ _ => ?_) | with_reducible refine pw_bx (T := T) (L := L) ?_ (fun _ _ _ _ => ?_) (fun _ _ _ _ => ?_) | with_reducible refine pw_oI ?_ | with_reducible refine pw_some ?_ ?_ | with_reducible refine pw_inl ?_ ?_ | with_reducible exact pw_none | assumption
theorem pr_f_X7_allCheats {T L : Nat → Nat} {M : gMem} {x0 : Nat} (hT : mT M = T) (hL : mL M = L) : PW (QR T L) (f_X7_allCheats M x0) := by
  unfold f_X7_allCheats
  repeat' first | with_reducible refine pr_b_X7_allCheats_0 ?_ ?_ | with_reducible refine pw_ck ?_ | with_reducible refine pw_dr (fun _ => ?_) | with_reducible refine pw_if ?_ ?_ | with_reducible refine pw_lw ?_ | with_reducible refine pw_bd (T := T) (L := L) ?_ (fun _ _ _ _ => ?_) | with_reducible refine pw_bx (T := T) (L := L) ?_ (fun _ _ _ _ => ?_) (fun _ _ _ _ => ?_) | with_reducible refine pw_oI ?_ | with_reducible refine pw_some ?_ ?_ | with_reducible refine pw_inl ?_ ?_ | with_reducible exact pw_none | assumption
theorem pr_bb_X7_storeGap_23 {T L : Nat → Nat} {M : gMem} {x0 : Nat} {x1 : Int32} {x2 : Int32} {x3 : Int32} (hT : mT M = T) (hL : mL M = L) : PW (QS T L (QR T L)) (bb_X7_storeGap_23 M x0 x1 x2 x3) := by
  unfold bb_X7_storeGap_23
  repeat' first | with_reducible refine pw_ck ?_ | with_reducible refine pw_dr (fun _ => ?_) | with_reducible refine pw_if ?_ ?_ | with_reducible refine pw_lw ?_ | with_reducible refine pw_bd (T := T) (L := L) ?_ (fun _ _ _ _ => ?_) | with_reducible refine pw_bx (T := T) (L := L) ?_ (fun _ _ _ _ => ?_) (fun _ _ _ _ => ?_) | with_reducible refine pw_oI ?_ | with_reducible refine pw_some ?_ ?_ | with_reducible refine pw_inl ?_ ?_ | with_reducible exact pw_none | assumption
theorem pr_lp_X7_storeGap_23 {T L : Nat → Nat} {M : gMem} {x0 : Nat} {x1 : Int32} {x2 : Int32} {x3 : Int32} (hT : mT M = T) (hL : mL M = L) : PW (QR T L) (lp_X7_storeGap_23 M x0 x1 x2 x3) := by
  unfold lp_X7_storeGap_23
  exact pw_lp hT hL (fun _ _ hT hL => pr_bb_X7_storeGap_23 hT hL)
theorem pr_b_X7_storeGap_0 {T L : Nat → Nat} {M : gMem} {x0 : Nat} (hT : mT M = T) (hL : mL M = L) : PW (QR T L) (b_X7_storeGap_0 M x0) := by
  unfold b_X7_storeGap_0
  repeat' first | with_reducible refine pr_lp_X7_storeGap_23 ?_ ?_ | with_reducible refine pw_ck ?_ | with_reducible refine pw_dr (fun _ => ?_) | with_reducible refine pw_if ?_ ?_ | with_reducible refine pw_lw ?_ | with_reducible refine pw_bd (T := T) (L := L) ?_ (fun _ _ _ _ => ?_) | with_reducible refine pw_bx (T := T) (L := L) ?_ (fun _ _ _ _ => ?_) (fun _ _ _ _ => ?_) | with_reducible refine pw_oI ?_ | with_reducible refine pw_some ?_ ?_ | with_reducible refine pw_inl ?_ ?_ | with_reducible exact pw_none | assumption
theorem pr_f_X7_storeGap {T L : Nat → Nat} {M : gMem} {x0 : Nat} (hT : mT M = T) (hL : mL M = L) : PW (QR T L) (f_X7_storeGap M x0) := by
  unfold f_X7_storeGap
  repeat' first | with_reducible refine pr_b_X7_storeGap_0 ?_ ?_ | with_reducible refine pw_ck ?_ | with_reducible refine pw_dr (fun _ => ?_) | with_reducible refine pw_if ?_ ?_ | with_reducible refine pw_lw ?_ | with_reducible refine pw_bd (T := T) (L := L) ?_ (fun _ _ _ _ => ?_) | with_reducible refine pw_bx (T := T) (L := L) ?_ (fun _ _ _ _ => ?_) (fun _ _ _ _ => ?_) | with_reducible refine pw_oI ?_ | with_reducible refine pw_some ?_ ?_ | with_reducible refine pw_inl ?_ ?_ | with_reducible exact pw_none | assumption
theorem pr_bb_X7_drawLots_71 {T L : Nat → Nat} {M : gMem} {x0 : Nat} {x1 : Int32} {x2 : Int32} {x4 : Int32} (hT : mT M = T) (hL : mL M = L) : PW (QS T L (QS T L (QR T L))) (bb_X7_drawLots_71 M x0 x1 x2 x4) := by
  unfold bb_X7_drawLots_71
  repeat' first | with_reducible refine pw_ck ?_ | with_reducible refine pw_dr (fun _ => ?_) | with_reducible refine pw_if ?_ ?_ | with_reducible refine pw_lw ?_ | with_reducible refine pw_bd (T := T) (L := L) ?_ (fun _ _ _ _ => ?_) | with_reducible refine pw_bx (T := T) (L := L) ?_ (fun _ _ _ _ => ?_) (fun _ _ _ _ => ?_) | with_reducible refine pw_oI ?_ | with_reducible refine pw_some ?_ ?_ | with_reducible refine pw_inl ?_ ?_ | with_reducible exact pw_none | assumption
theorem pr_lp_X7_drawLots_71 {T L : Nat → Nat} {M : gMem} {x0 : Nat} {x1 : Int32} {x2 : Int32} {x4 : Int32} (hT : mT M = T) (hL : mL M = L) : PW (QS T L (QR T L)) (lp_X7_drawLots_71 M x0 x1 x2 x4) := by
  unfold lp_X7_drawLots_71
  exact pw_lp hT hL (fun _ _ hT hL => pr_bb_X7_drawLots_71 hT hL)
theorem pr_bb_X7_drawLots_33 {T L : Nat → Nat} {M : gMem} {x0 : Nat} {x1 : Int32} {x2 : Int32} (hT : mT M = T) (hL : mL M = L) : PW (QS T L (QR T L)) (bb_X7_drawLots_33 M x0 x1 x2) := by
  unfold bb_X7_drawLots_33
  repeat' first | with_reducible refine pr_lp_X7_drawLots_71 ?_ ?_ | with_reducible refine pw_ck ?_ | with_reducible refine pw_dr (fun _ => ?_) | with_reducible refine pw_if ?_ ?_ | with_reducible refine pw_lw ?_ | with_reducible refine pw_bd (T := T) (L := L) ?_ (fun _ _ _ _ => ?_) | with_reducible refine pw_bx (T := T) (L := L) ?_ (fun _ _ _ _ => ?_) (fun _ _ _ _ => ?_) | with_reducible refine pw_oI ?_ | with_reducible refine pw_some ?_ ?_ | with_reducible refine pw_inl ?_ ?_ | with_reducible exact pw_none | assumption
theorem pr_lp_X7_drawLots_33 {T L : Nat → Nat} {M : gMem} {x0 : Nat} {x1 : Int32} {x2 : Int32} (hT : mT M = T) (hL : mL M = L) : PW (QR T L) (lp_X7_drawLots_33 M x0 x1 x2) := by
  unfold lp_X7_drawLots_33
  exact pw_lp hT hL (fun _ _ hT hL => pr_bb_X7_drawLots_33 hT hL)
theorem pr_bb_X7_drawLots_7 {T L : Nat → Nat} {M : gMem} {x0 : Nat} {x1 : Int32} {x2 : Int32} (hT : mT M = T) (hL : mL M = L) : PW (QS T L (QR T L)) (bb_X7_drawLots_7 M x0 x1 x2) := by
  unfold bb_X7_drawLots_7
  repeat' first | with_reducible refine pr_lp_X7_drawLots_33 ?_ ?_ | with_reducible refine pw_ck ?_ | with_reducible refine pw_dr (fun _ => ?_) | with_reducible refine pw_if ?_ ?_ | with_reducible refine pw_lw ?_ | with_reducible refine pw_bd (T := T) (L := L) ?_ (fun _ _ _ _ => ?_) | with_reducible refine pw_bx (T := T) (L := L) ?_ (fun _ _ _ _ => ?_) (fun _ _ _ _ => ?_) | with_reducible refine pw_oI ?_ | with_reducible refine pw_some ?_ ?_ | with_reducible refine pw_inl ?_ ?_ | with_reducible exact pw_none | assumption
theorem pr_lp_X7_drawLots_7 {T L : Nat → Nat} {M : gMem} {x0 : Nat} {x1 : Int32} {x2 : Int32} (hT : mT M = T) (hL : mL M = L) : PW (QR T L) (lp_X7_drawLots_7 M x0 x1 x2) := by
  unfold lp_X7_drawLots_7
  exact pw_lp hT hL (fun _ _ hT hL => pr_bb_X7_drawLots_7 hT hL)
theorem pr_b_X7_drawLots_0 {T L : Nat → Nat} {M : gMem} {x0 : Nat} (hT : mT M = T) (hL : mL M = L) : PW (QR T L) (b_X7_drawLots_0 M x0) := by
  unfold b_X7_drawLots_0
  repeat' first | with_reducible refine pr_lp_X7_drawLots_7 ?_ ?_ | with_reducible refine pw_ck ?_ | with_reducible refine pw_dr (fun _ => ?_) | with_reducible refine pw_if ?_ ?_ | with_reducible refine pw_lw ?_ | with_reducible refine pw_bd (T := T) (L := L) ?_ (fun _ _ _ _ => ?_) | with_reducible refine pw_bx (T := T) (L := L) ?_ (fun _ _ _ _ => ?_) (fun _ _ _ _ => ?_) | with_reducible refine pw_oI ?_ | with_reducible refine pw_some ?_ ?_ | with_reducible refine pw_inl ?_ ?_ | with_reducible exact pw_none | assumption
theorem pr_f_X7_drawLots {T L : Nat → Nat} {M : gMem} {x0 : Nat} (hT : mT M = T) (hL : mL M = L) : PW (QR T L) (f_X7_drawLots M x0) := by
  unfold f_X7_drawLots
  repeat' first | with_reducible refine pr_b_X7_drawLots_0 ?_ ?_ | with_reducible refine pw_ck ?_ | with_reducible refine pw_dr (fun _ => ?_) | with_reducible refine pw_if ?_ ?_ | with_reducible refine pw_lw ?_ | with_reducible refine pw_bd (T := T) (L := L) ?_ (fun _ _ _ _ => ?_) | with_reducible refine pw_bx (T := T) (L := L) ?_ (fun _ _ _ _ => ?_) (fun _ _ _ _ => ?_) | with_reducible refine pw_oI ?_ | with_reducible refine pw_some ?_ ?_ | with_reducible refine pw_inl ?_ ?_ | with_reducible exact pw_none | assumption
theorem pr_bb_X7_callBoatsHome_2 {T L : Nat → Nat} {M : gMem} {x0 : Nat} {x1 : Int32} (hT : mT M = T) (hL : mL M = L) : PW (QS T L (QR T L)) (bb_X7_callBoatsHome_2 M x0 x1) := by
  unfold bb_X7_callBoatsHome_2
  repeat' first | with_reducible refine pw_ck ?_ | with_reducible refine pw_dr (fun _ => ?_) | with_reducible refine pw_if ?_ ?_ | with_reducible refine pw_lw ?_ | with_reducible refine pw_bd (T := T) (L := L) ?_ (fun _ _ _ _ => ?_) | with_reducible refine pw_bx (T := T) (L := L) ?_ (fun _ _ _ _ => ?_) (fun _ _ _ _ => ?_) | with_reducible refine pw_oI ?_ | with_reducible refine pw_some ?_ ?_ | with_reducible refine pw_inl ?_ ?_ | with_reducible exact pw_none | assumption
theorem pr_lp_X7_callBoatsHome_2 {T L : Nat → Nat} {M : gMem} {x0 : Nat} {x1 : Int32} (hT : mT M = T) (hL : mL M = L) : PW (QR T L) (lp_X7_callBoatsHome_2 M x0 x1) := by
  unfold lp_X7_callBoatsHome_2
  exact pw_lp hT hL (fun _ _ hT hL => pr_bb_X7_callBoatsHome_2 hT hL)
theorem pr_b_X7_callBoatsHome_0 {T L : Nat → Nat} {M : gMem} {x0 : Nat} (hT : mT M = T) (hL : mL M = L) : PW (QR T L) (b_X7_callBoatsHome_0 M x0) := by
  unfold b_X7_callBoatsHome_0
  repeat' first | with_reducible refine pr_lp_X7_callBoatsHome_2 ?_ ?_ | with_reducible refine pw_ck ?_ | with_reducible refine pw_dr (fun _ => ?_) | with_reducible refine pw_if ?_ ?_ | with_reducible refine pw_lw ?_ | with_reducible refine pw_bd (T := T) (L := L) ?_ (fun _ _ _ _ => ?_) | with_reducible refine pw_bx (T := T) (L := L) ?_ (fun _ _ _ _ => ?_) (fun _ _ _ _ => ?_) | with_reducible refine pw_oI ?_ | with_reducible refine pw_some ?_ ?_ | with_reducible refine pw_inl ?_ ?_ | with_reducible exact pw_none | assumption
theorem pr_f_X7_callBoatsHome {T L : Nat → Nat} {M : gMem} {x0 : Nat} (hT : mT M = T) (hL : mL M = L) : PW (QR T L) (f_X7_callBoatsHome M x0) := by
  unfold f_X7_callBoatsHome
  repeat' first | with_reducible refine pr_b_X7_callBoatsHome_0 ?_ ?_ | with_reducible refine pw_ck ?_ | with_reducible refine pw_dr (fun _ => ?_) | with_reducible refine pw_if ?_ ?_ | with_reducible refine pw_lw ?_ | with_reducible refine pw_bd (T := T) (L := L) ?_ (fun _ _ _ _ => ?_) | with_reducible refine pw_bx (T := T) (L := L) ?_ (fun _ _ _ _ => ?_) (fun _ _ _ _ => ?_) | with_reducible refine pw_oI ?_ | with_reducible refine pw_some ?_ ?_ | with_reducible refine pw_inl ?_ ?_ | with_reducible exact pw_none | assumption
theorem pr_b_X7_isSpared_82 {T L : Nat → Nat} {Z : Nat → Nat} {M : gMem} {x0 : Nat} {x1 : Int32} {x2 : Int32} {x3 : Int32} (hT : mT M = T) (hL : mL M = L) : PW (QS T L (QR T L)) (b_X7_isSpared_82 Z M x0 x1 x2 x3) := by
  unfold b_X7_isSpared_82
  repeat' first | with_reducible refine pw_ck ?_ | with_reducible refine pw_dr (fun _ => ?_) | with_reducible refine pw_if ?_ ?_ | with_reducible refine pw_lw ?_ | with_reducible refine pw_bd (T := T) (L := L) ?_ (fun _ _ _ _ => ?_) | with_reducible refine pw_bx (T := T) (L := L) ?_ (fun _ _ _ _ => ?_) (fun _ _ _ _ => ?_) | with_reducible refine pw_oI ?_ | with_reducible refine pw_some ?_ ?_ | with_reducible refine pw_inl ?_ ?_ | with_reducible exact pw_none | assumption
theorem pr_bb_X7_isSpared_16 {T L : Nat → Nat} {Z : Nat → Nat} {M : gMem} {x0 : Nat} {x1 : Int32} {x2 : Int32} {x3 : Int32} (hT : mT M = T) (hL : mL M = L) : PW (QS T L (QR T L)) (bb_X7_isSpared_16 Z M x0 x1 x2 x3) := by
  unfold bb_X7_isSpared_16
  repeat' first | with_reducible refine pr_f_X5_has ?_ ?_ | with_reducible refine pr_b_X7_isSpared_82 ?_ ?_ | with_reducible refine pr_f_X3_allFish ?_ ?_ | with_reducible refine pr_f_X9_reckon ?_ ?_ | with_reducible refine pw_ck ?_ | with_reducible refine pw_dr (fun _ => ?_) | with_reducible refine pw_if ?_ ?_ | with_reducible refine pw_lw ?_ | with_reducible refine pw_bd (T := T) (L := L) ?_ (fun _ _ _ _ => ?_) | with_reducible refine pw_bx (T := T) (L := L) ?_ (fun _ _ _ _ => ?_) (fun _ _ _ _ => ?_) | with_reducible refine pw_oI ?_ | with_reducible refine pw_some ?_ ?_ | with_reducible refine pw_inl ?_ ?_ | with_reducible exact pw_none | assumption
theorem pr_lp_X7_isSpared_16 {T L : Nat → Nat} {Z : Nat → Nat} {M : gMem} {x0 : Nat} {x1 : Int32} {x2 : Int32} {x3 : Int32} (hT : mT M = T) (hL : mL M = L) : PW (QR T L) (lp_X7_isSpared_16 Z M x0 x1 x2 x3) := by
  unfold lp_X7_isSpared_16
  exact pw_lp hT hL (fun _ _ hT hL => pr_bb_X7_isSpared_16 hT hL)
theorem pr_b_X7_isSpared_0 {T L : Nat → Nat} {Z : Nat → Nat} {M : gMem} {x0 : Nat} {x1 : Int32} {x2 : Int32} (hT : mT M = T) (hL : mL M = L) : PW (QR T L) (b_X7_isSpared_0 Z M x0 x1 x2) := by
  unfold b_X7_isSpared_0
  repeat' first | with_reducible refine pr_lp_X7_isSpared_16 ?_ ?_ | with_reducible refine pw_ck ?_ | with_reducible refine pw_dr (fun _ => ?_) | with_reducible refine pw_if ?_ ?_ | with_reducible refine pw_lw ?_ | with_reducible refine pw_bd (T := T) (L := L) ?_ (fun _ _ _ _ => ?_) | with_reducible refine pw_bx (T := T) (L := L) ?_ (fun _ _ _ _ => ?_) (fun _ _ _ _ => ?_) | with_reducible refine pw_oI ?_ | with_reducible refine pw_some ?_ ?_ | with_reducible refine pw_inl ?_ ?_ | with_reducible exact pw_none | assumption
theorem pr_f_X7_isSpared {T L : Nat → Nat} {Z : Nat → Nat} {M : gMem} {x0 : Nat} {x1 : Int32} {x2 : Int32} (hT : mT M = T) (hL : mL M = L) : PW (QR T L) (f_X7_isSpared Z M x0 x1 x2) := by
  unfold f_X7_isSpared
  repeat' first | with_reducible refine pr_b_X7_isSpared_0 ?_ ?_ | with_reducible refine pw_ck ?_ | with_reducible refine pw_dr (fun _ => ?_) | with_reducible refine pw_if ?_ ?_ | with_reducible refine pw_lw ?_ | with_reducible refine pw_bd (T := T) (L := L) ?_ (fun _ _ _ _ => ?_) | with_reducible refine pw_bx (T := T) (L := L) ?_ (fun _ _ _ _ => ?_) (fun _ _ _ _ => ?_) | with_reducible refine pw_oI ?_ | with_reducible refine pw_some ?_ ?_ | with_reducible refine pw_inl ?_ ?_ | with_reducible exact pw_none | assumption
theorem pr_b_X7_firstGo_114 {T L : Nat → Nat} {Z : Nat → Nat} {M : gMem} {x0 : Nat} {x1 : Int32} {x2 : Int32} (hT : mT M = T) (hL : mL M = L) : PW (QS T L (QR T L)) (b_X7_firstGo_114 Z M x0 x1 x2) := by
  unfold b_X7_firstGo_114
  repeat' first | with_reducible refine pw_ck ?_ | with_reducible refine pw_dr (fun _ => ?_) | with_reducible refine pw_if ?_ ?_ | with_reducible refine pw_lw ?_ | with_reducible refine pw_bd (T := T) (L := L) ?_ (fun _ _ _ _ => ?_) | with_reducible refine pw_bx (T := T) (L := L) ?_ (fun _ _ _ _ => ?_) (fun _ _ _ _ => ?_) | with_reducible refine pw_oI ?_ | with_reducible refine pw_some ?_ ?_ | with_reducible refine pw_inl ?_ ?_ | with_reducible exact pw_none | assumption
theorem pr_b_X7_firstGo_90 {T L : Nat → Nat} {Z : Nat → Nat} {M : gMem} {x0 : Nat} {x1 : Int32} {x2 : Int32} {x3 : Option Nat} {s0 : Int32} (hT : mT M = T) (hL : mL M = L) : PW (QS T L (QR T L)) (b_X7_firstGo_90 Z M x0 x1 x2 x3 s0) := by
  unfold b_X7_firstGo_90
  repeat' first | with_reducible refine pr_b_X7_firstGo_114 ?_ ?_ | with_reducible refine pr_f_X7_isSpared ?_ ?_ | with_reducible refine pw_ck ?_ | with_reducible refine pw_dr (fun _ => ?_) | with_reducible refine pw_if ?_ ?_ | with_reducible refine pw_lw ?_ | with_reducible refine pw_bd (T := T) (L := L) ?_ (fun _ _ _ _ => ?_) | with_reducible refine pw_bx (T := T) (L := L) ?_ (fun _ _ _ _ => ?_) (fun _ _ _ _ => ?_) | with_reducible refine pw_oI ?_ | with_reducible refine pw_some ?_ ?_ | with_reducible refine pw_inl ?_ ?_ | with_reducible exact pw_none | assumption
theorem pr_b_X7_firstGo_85 {T L : Nat → Nat} {Z : Nat → Nat} {M : gMem} {x0 : Nat} {x1 : Int32} {x2 : Int32} {x3 : Option Nat} (hT : mT M = T) (hL : mL M = L) : PW (QS T L (QR T L)) (b_X7_firstGo_85 Z M x0 x1 x2 x3) := by
  unfold b_X7_firstGo_85
  repeat' first | with_reducible refine pr_b_X7_firstGo_90 ?_ ?_ | with_reducible refine pw_ck ?_ | with_reducible refine pw_dr (fun _ => ?_) | with_reducible refine pw_if ?_ ?_ | with_reducible refine pw_lw ?_ | with_reducible refine pw_bd (T := T) (L := L) ?_ (fun _ _ _ _ => ?_) | with_reducible refine pw_bx (T := T) (L := L) ?_ (fun _ _ _ _ => ?_) (fun _ _ _ _ => ?_) | with_reducible refine pw_oI ?_ | with_reducible refine pw_some ?_ ?_ | with_reducible refine pw_inl ?_ ?_ | with_reducible exact pw_none | assumption
set_option maxRecDepth 100000 in
theorem pr_bb_X7_firstGo_2 {T L : Nat → Nat} {Z : Nat → Nat} {M : gMem} {x0 : Nat} {x1 : Int32} {x2 : Int32} (hT : mT M = T) (hL : mL M = L) : PW (QS T L (QR T L)) (bb_X7_firstGo_2 Z M x0 x1 x2) := by
  unfold bb_X7_firstGo_2
  repeat' first | with_reducible refine pr_b_X7_firstGo_85 ?_ ?_ | with_reducible refine pr_f_X9_reckon ?_ ?_ | with_reducible refine pr_b_X7_firstGo_90 ?_ ?_ | with_reducible refine pr_b_X7_firstGo_114 ?_ ?_ | with_reducible refine pw_ck ?_ | with_reducible refine pw_dr (fun _ => ?_) | with_reducible refine pw_if ?_ ?_ | with_reducible refine pw_lw ?_ | with_reducible refine pw_bd (T := T) (L := L) ?_ (fun _ _ _ _ => ?_) | with_reducible refine pw_bx (T := T) (L := L) ?_ (fun _ _ _ _ => ?_) (fun _ _ _ _ => ?_) | with_reducible refine pw_oI ?_ | with_reducible refine pw_some ?_ ?_ | with_reducible refine pw_inl ?_ ?_ | with_reducible exact pw_none | assumption
theorem pr_lp_X7_firstGo_2 {T L : Nat → Nat} {Z : Nat → Nat} {M : gMem} {x0 : Nat} {x1 : Int32} {x2 : Int32} (hT : mT M = T) (hL : mL M = L) : PW (QR T L) (lp_X7_firstGo_2 Z M x0 x1 x2) := by
  unfold lp_X7_firstGo_2
  exact pw_lp hT hL (fun _ _ hT hL => pr_bb_X7_firstGo_2 hT hL)
theorem pr_b_X7_firstGo_0 {T L : Nat → Nat} {Z : Nat → Nat} {M : gMem} {x0 : Nat} {x1 : Int32} (hT : mT M = T) (hL : mL M = L) : PW (QR T L) (b_X7_firstGo_0 Z M x0 x1) := by
  unfold b_X7_firstGo_0
  repeat' first | with_reducible refine pr_lp_X7_firstGo_2 ?_ ?_ | with_reducible refine pw_ck ?_ | with_reducible refine pw_dr (fun _ => ?_) | with_reducible refine pw_if ?_ ?_ | with_reducible refine pw_lw ?_ | with_reducible refine pw_bd (T := T) (L := L) ?_ (fun _ _ _ _ => ?_) | with_reducible refine pw_bx (T := T) (L := L) ?_ (fun _ _ _ _ => ?_) (fun _ _ _ _ => ?_) | with_reducible refine pw_oI ?_ | with_reducible refine pw_some ?_ ?_ | with_reducible refine pw_inl ?_ ?_ | with_reducible exact pw_none | assumption
theorem pr_f_X7_firstGo {T L : Nat → Nat} {Z : Nat → Nat} {M : gMem} {x0 : Nat} {x1 : Int32} (hT : mT M = T) (hL : mL M = L) : PW (QR T L) (f_X7_firstGo Z M x0 x1) := by
  unfold f_X7_firstGo
  repeat' first | with_reducible refine pr_b_X7_firstGo_0 ?_ ?_ | with_reducible refine pw_ck ?_ | with_reducible refine pw_dr (fun _ => ?_) | with_reducible refine pw_if ?_ ?_ | with_reducible refine pw_lw ?_ | with_reducible refine pw_bd (T := T) (L := L) ?_ (fun _ _ _ _ => ?_) | with_reducible refine pw_bx (T := T) (L := L) ?_ (fun _ _ _ _ => ?_) (fun _ _ _ _ => ?_) | with_reducible refine pw_oI ?_ | with_reducible refine pw_some ?_ ?_ | with_reducible refine pw_inl ?_ ?_ | with_reducible exact pw_none | assumption
theorem pr_b_X7_haulFrom_148 {T L : Nat → Nat} {M : gMem} (hT : mT M = T) (hL : mL M = L) : PW (QR T L) (b_X7_haulFrom_148 M) := by
  unfold b_X7_haulFrom_148
  repeat' first | with_reducible refine pw_ck ?_ | with_reducible refine pw_dr (fun _ => ?_) | with_reducible refine pw_if ?_ ?_ | with_reducible refine pw_lw ?_ | with_reducible refine pw_bd (T := T) (L := L) ?_ (fun _ _ _ _ => ?_) | with_reducible refine pw_bx (T := T) (L := L) ?_ (fun _ _ _ _ => ?_) (fun _ _ _ _ => ?_) | with_reducible refine pw_oI ?_ | with_reducible refine pw_some ?_ ?_ | with_reducible refine pw_inl ?_ ?_ | with_reducible exact pw_none | assumption
theorem pr_b_X7_haulFrom_133 {T L : Nat → Nat} {M : gMem} {x0 : Nat} {x1 : Option Nat} {x2 : Option Nat} {x3 : Int32} {x4 : Int32} {x5 : Int32} {x6 : Int32} {x7 : Int32} (hT : mT M = T) (hL : mL M = L) : PW (QS T L (QR T L)) (b_X7_haulFrom_133 M x0 x1 x2 x3 x4 x5 x6 x7) := by
  unfold b_X7_haulFrom_133
  repeat' first | with_reducible refine pw_ck ?_ | with_reducible refine pw_dr (fun _ => ?_) | with_reducible refine pw_if ?_ ?_ | with_reducible refine pw_lw ?_ | with_reducible refine pw_bd (T := T) (L := L) ?_ (fun _ _ _ _ => ?_) | with_reducible refine pw_bx (T := T) (L := L) ?_ (fun _ _ _ _ => ?_) (fun _ _ _ _ => ?_) | with_reducible refine pw_oI ?_ | with_reducible refine pw_some ?_ ?_ | with_reducible refine pw_inl ?_ ?_ | with_reducible exact pw_none | assumption
theorem pr_b_X7_haulFrom_105 {T L : Nat → Nat} {M : gMem} {x0 : Nat} {x1 : Option Nat} {x2 : Option Nat} {x3 : Int32} {x4 : Int32} {x5 : Int32} {x6 : Int32} {x7 : Int32} {s0 : Option Nat} {s1 : Int32} {s2 : Int32} (hT : mT M = T) (hL : mL M = L) : PW (QS T L (QR T L)) (b_X7_haulFrom_105 M x0 x1 x2 x3 x4 x5 x6 x7 s0 s1 s2) := by
  unfold b_X7_haulFrom_105
  repeat' first | with_reducible refine pr_b_X7_haulFrom_133 ?_ ?_ | with_reducible refine pw_ck ?_ | with_reducible refine pw_dr (fun _ => ?_) | with_reducible refine pw_if ?_ ?_ | with_reducible refine pw_lw ?_ | with_reducible refine pw_bd (T := T) (L := L) ?_ (fun _ _ _ _ => ?_) | with_reducible refine pw_bx (T := T) (L := L) ?_ (fun _ _ _ _ => ?_) (fun _ _ _ _ => ?_) | with_reducible refine pw_oI ?_ | with_reducible refine pw_some ?_ ?_ | with_reducible refine pw_inl ?_ ?_ | with_reducible exact pw_none | assumption
theorem pr_b_X7_haulFrom_85 {T L : Nat → Nat} {M : gMem} {x0 : Nat} {x1 : Option Nat} {x2 : Option Nat} {x3 : Int32} {x4 : Int32} {x5 : Int32} {x7 : Int32} {x8 : Int32} {x9 : Int32} {s0 : Int32} (hT : mT M = T) (hL : mL M = L) : PW (QS T L (QR T L)) (b_X7_haulFrom_85 M x0 x1 x2 x3 x4 x5 x7 x8 x9 s0) := by
  unfold b_X7_haulFrom_85
  repeat' first | with_reducible refine pr_b_X7_haulFrom_105 ?_ ?_ | with_reducible refine pw_ck ?_ | with_reducible refine pw_dr (fun _ => ?_) | with_reducible refine pw_if ?_ ?_ | with_reducible refine pw_lw ?_ | with_reducible refine pw_bd (T := T) (L := L) ?_ (fun _ _ _ _ => ?_) | with_reducible refine pw_bx (T := T) (L := L) ?_ (fun _ _ _ _ => ?_) (fun _ _ _ _ => ?_) | with_reducible refine pw_oI ?_ | with_reducible refine pw_some ?_ ?_ | with_reducible refine pw_inl ?_ ?_ | with_reducible exact pw_none | assumption
set_option maxRecDepth 100000 in
theorem pr_bb_X7_haulFrom_17 {T L : Nat → Nat} {M : gMem} {x0 : Nat} {x1 : Option Nat} {x2 : Option Nat} {x3 : Int32} {x4 : Int32} {x5 : Int32} {x6 : Int32} {x7 : Int32} (hT : mT M = T) (hL : mL M = L) : PW (QS T L (QR T L)) (bb_X7_haulFrom_17 M x0 x1 x2 x3 x4 x5 x6 x7) := by
  unfold bb_X7_haulFrom_17
  repeat' first | with_reducible refine pr_b_X7_haulFrom_148 ?_ ?_ | with_reducible refine pr_f_X1_tear ?_ ?_ | with_reducible refine pr_b_X7_haulFrom_133 ?_ ?_ | with_reducible refine pr_b_X7_haulFrom_85 ?_ ?_ | with_reducible refine pw_ck ?_ | with_reducible refine pw_dr (fun _ => ?_) | with_reducible refine pw_if ?_ ?_ | with_reducible refine pw_lw ?_ | with_reducible refine pw_bd (T := T) (L := L) ?_ (fun _ _ _ _ => ?_) | with_reducible refine pw_bx (T := T) (L := L) ?_ (fun _ _ _ _ => ?_) (fun _ _ _ _ => ?_) | with_reducible refine pw_oI ?_ | with_reducible refine pw_some ?_ ?_ | with_reducible refine pw_inl ?_ ?_ | with_reducible exact pw_none | assumption
theorem pr_lp_X7_haulFrom_17 {T L : Nat → Nat} {M : gMem} {x0 : Nat} {x1 : Option Nat} {x2 : Option Nat} {x3 : Int32} {x4 : Int32} {x5 : Int32} {x6 : Int32} {x7 : Int32} (hT : mT M = T) (hL : mL M = L) : PW (QR T L) (lp_X7_haulFrom_17 M x0 x1 x2 x3 x4 x5 x6 x7) := by
  unfold lp_X7_haulFrom_17
  exact pw_lp hT hL (fun _ _ hT hL => pr_bb_X7_haulFrom_17 hT hL)
theorem pr_b_X7_haulFrom_0 {T L : Nat → Nat} {M : gMem} {x0 : Nat} {x1 : Option Nat} {x2 : Option Nat} (hT : mT M = T) (hL : mL M = L) : PW (QR T L) (b_X7_haulFrom_0 M x0 x1 x2) := by
  unfold b_X7_haulFrom_0
  repeat' first | with_reducible refine pr_lp_X7_haulFrom_17 ?_ ?_ | with_reducible refine pw_ck ?_ | with_reducible refine pw_dr (fun _ => ?_) | with_reducible refine pw_if ?_ ?_ | with_reducible refine pw_lw ?_ | with_reducible refine pw_bd (T := T) (L := L) ?_ (fun _ _ _ _ => ?_) | with_reducible refine pw_bx (T := T) (L := L) ?_ (fun _ _ _ _ => ?_) (fun _ _ _ _ => ?_) | with_reducible refine pw_oI ?_ | with_reducible refine pw_some ?_ ?_ | with_reducible refine pw_inl ?_ ?_ | with_reducible exact pw_none | assumption
theorem pr_f_X7_haulFrom {T L : Nat → Nat} {M : gMem} {x0 : Nat} {x1 : Option Nat} {x2 : Option Nat} (hT : mT M = T) (hL : mL M = L) : PW (QR T L) (f_X7_haulFrom M x0 x1 x2) := by
  unfold f_X7_haulFrom
  repeat' first | with_reducible refine pr_b_X7_haulFrom_0 ?_ ?_ | with_reducible refine pw_ck ?_ | with_reducible refine pw_dr (fun _ => ?_) | with_reducible refine pw_if ?_ ?_ | with_reducible refine pw_lw ?_ | with_reducible refine pw_bd (T := T) (L := L) ?_ (fun _ _ _ _ => ?_) | with_reducible refine pw_bx (T := T) (L := L) ?_ (fun _ _ _ _ => ?_) (fun _ _ _ _ => ?_) | with_reducible refine pw_oI ?_ | with_reducible refine pw_some ?_ ?_ | with_reducible refine pw_inl ?_ ?_ | with_reducible exact pw_none | assumption
theorem pr_b_X7_landHaul_66 {T L : Nat → Nat} {M : gMem} {x0 : Nat} {x1 : Option Nat} {x2 : Option Nat} {x3 : Int32} {x4 : Int32} (hT : mT M = T) (hL : mL M = L) : PW (QS T L (QR T L)) (b_X7_landHaul_66 M x0 x1 x2 x3 x4) := by
  unfold b_X7_landHaul_66
  repeat' first | with_reducible refine pw_ck ?_ | with_reducible refine pw_dr (fun _ => ?_) | with_reducible refine pw_if ?_ ?_ | with_reducible refine pw_lw ?_ | with_reducible refine pw_bd (T := T) (L := L) ?_ (fun _ _ _ _ => ?_) | with_reducible refine pw_bx (T := T) (L := L) ?_ (fun _ _ _ _ => ?_) (fun _ _ _ _ => ?_) | with_reducible refine pw_oI ?_ | with_reducible refine pw_some ?_ ?_ | with_reducible refine pw_inl ?_ ?_ | with_reducible exact pw_none | assumption
set_option maxRecDepth 100000 in
theorem pr_bb_X7_landHaul_5 {T L : Nat → Nat} {M : gMem} {x0 : Nat} {x1 : Option Nat} {x2 : Option Nat} {x3 : Int32} {x4 : Int32} (hT : mT M = T) (hL : mL M = L) : PW (QS T L (QR T L)) (bb_X7_landHaul_5 M x0 x1 x2 x3 x4) := by
  unfold bb_X7_landHaul_5
  repeat' first | with_reducible refine pr_b_X7_landHaul_66 ?_ ?_ | with_reducible refine pw_ck ?_ | with_reducible refine pw_dr (fun _ => ?_) | with_reducible refine pw_if ?_ ?_ | with_reducible refine pw_lw ?_ | with_reducible refine pw_bd (T := T) (L := L) ?_ (fun _ _ _ _ => ?_) | with_reducible refine pw_bx (T := T) (L := L) ?_ (fun _ _ _ _ => ?_) (fun _ _ _ _ => ?_) | with_reducible refine pw_oI ?_ | with_reducible refine pw_some ?_ ?_ | with_reducible refine pw_inl ?_ ?_ | with_reducible exact pw_none | assumption
theorem pr_lp_X7_landHaul_5 {T L : Nat → Nat} {M : gMem} {x0 : Nat} {x1 : Option Nat} {x2 : Option Nat} {x3 : Int32} {x4 : Int32} (hT : mT M = T) (hL : mL M = L) : PW (QR T L) (lp_X7_landHaul_5 M x0 x1 x2 x3 x4) := by
  unfold lp_X7_landHaul_5
  exact pw_lp hT hL (fun _ _ hT hL => pr_bb_X7_landHaul_5 hT hL)
theorem pr_b_X7_landHaul_0 {T L : Nat → Nat} {M : gMem} {x0 : Nat} {x1 : Option Nat} {x2 : Option Nat} (hT : mT M = T) (hL : mL M = L) : PW (QR T L) (b_X7_landHaul_0 M x0 x1 x2) := by
  unfold b_X7_landHaul_0
  repeat' first | with_reducible refine pr_lp_X7_landHaul_5 ?_ ?_ | with_reducible refine pw_ck ?_ | with_reducible refine pw_dr (fun _ => ?_) | with_reducible refine pw_if ?_ ?_ | with_reducible refine pw_lw ?_ | with_reducible refine pw_bd (T := T) (L := L) ?_ (fun _ _ _ _ => ?_) | with_reducible refine pw_bx (T := T) (L := L) ?_ (fun _ _ _ _ => ?_) (fun _ _ _ _ => ?_) | with_reducible refine pw_oI ?_ | with_reducible refine pw_some ?_ ?_ | with_reducible refine pw_inl ?_ ?_ | with_reducible exact pw_none | assumption
theorem pr_f_X7_landHaul {T L : Nat → Nat} {M : gMem} {x0 : Nat} {x1 : Option Nat} {x2 : Option Nat} (hT : mT M = T) (hL : mL M = L) : PW (QR T L) (f_X7_landHaul M x0 x1 x2) := by
  unfold f_X7_landHaul
  repeat' first | with_reducible refine pr_b_X7_landHaul_0 ?_ ?_ | with_reducible refine pw_ck ?_ | with_reducible refine pw_dr (fun _ => ?_) | with_reducible refine pw_if ?_ ?_ | with_reducible refine pw_lw ?_ | with_reducible refine pw_bd (T := T) (L := L) ?_ (fun _ _ _ _ => ?_) | with_reducible refine pw_bx (T := T) (L := L) ?_ (fun _ _ _ _ => ?_) (fun _ _ _ _ => ?_) | with_reducible refine pw_oI ?_ | with_reducible refine pw_some ?_ ?_ | with_reducible refine pw_inl ?_ ?_ | with_reducible exact pw_none | assumption
theorem pr_b_X7_sail_67 {T L : Nat → Nat} {M : gMem} (hT : mT M = T) (hL : mL M = L) : PW (QR T L) (b_X7_sail_67 M) := by
  unfold b_X7_sail_67
  repeat' first | with_reducible refine pw_ck ?_ | with_reducible refine pw_dr (fun _ => ?_) | with_reducible refine pw_if ?_ ?_ | with_reducible refine pw_lw ?_ | with_reducible refine pw_bd (T := T) (L := L) ?_ (fun _ _ _ _ => ?_) | with_reducible refine pw_bx (T := T) (L := L) ?_ (fun _ _ _ _ => ?_) (fun _ _ _ _ => ?_) | with_reducible refine pw_oI ?_ | with_reducible refine pw_some ?_ ?_ | with_reducible refine pw_inl ?_ ?_ | with_reducible exact pw_none | assumption
set_option maxRecDepth 100000 in
theorem pr_b_X7_sail_0 {T L : Nat → Nat} {M : gMem} {x0 : Nat} {x1 : Int32} {x2 : Int32} (hT : mT M = T) (hL : mL M = L) : PW (QR T L) (b_X7_sail_0 M x0 x1 x2) := by
  unfold b_X7_sail_0
  repeat' first | with_reducible refine pr_b_X7_sail_67 ?_ ?_ | with_reducible refine pr_f_X7_haulFrom ?_ ?_ | with_reducible refine pr_f_X7_landHaul ?_ ?_ | with_reducible refine pw_ck ?_ | with_reducible refine pw_dr (fun _ => ?_) | with_reducible refine pw_if ?_ ?_ | with_reducible refine pw_lw ?_ | with_reducible refine pw_bd (T := T) (L := L) ?_ (fun _ _ _ _ => ?_) | with_reducible refine pw_bx (T := T) (L := L) ?_ (fun _ _ _ _ => ?_) (fun _ _ _ _ => ?_) | with_reducible refine pw_oI ?_ | with_reducible refine pw_some ?_ ?_ | with_reducible refine pw_inl ?_ ?_ | with_reducible exact pw_none | assumption
theorem pr_f_X7_sail {T L : Nat → Nat} {M : gMem} {x0 : Nat} {x1 : Int32} {x2 : Int32} (hT : mT M = T) (hL : mL M = L) : PW (QR T L) (f_X7_sail M x0 x1 x2) := by
  unfold f_X7_sail
  repeat' first | with_reducible refine pr_b_X7_sail_0 ?_ ?_ | with_reducible refine pw_ck ?_ | with_reducible refine pw_dr (fun _ => ?_) | with_reducible refine pw_if ?_ ?_ | with_reducible refine pw_lw ?_ | with_reducible refine pw_bd (T := T) (L := L) ?_ (fun _ _ _ _ => ?_) | with_reducible refine pw_bx (T := T) (L := L) ?_ (fun _ _ _ _ => ?_) (fun _ _ _ _ => ?_) | with_reducible refine pw_oI ?_ | with_reducible refine pw_some ?_ ?_ | with_reducible refine pw_inl ?_ ?_ | with_reducible exact pw_none | assumption
theorem pr_b_X7_split_212 {T L : Nat → Nat} {M : gMem} {s0 : Option Nat} {s1 : Int32} {s2 : Int32} (hT : mT M = T) (hL : mL M = L) : PW (QR T L) (b_X7_split_212 M s0 s1 s2) := by
  unfold b_X7_split_212
  repeat' first | with_reducible refine pw_ck ?_ | with_reducible refine pw_dr (fun _ => ?_) | with_reducible refine pw_if ?_ ?_ | with_reducible refine pw_lw ?_ | with_reducible refine pw_bd (T := T) (L := L) ?_ (fun _ _ _ _ => ?_) | with_reducible refine pw_bx (T := T) (L := L) ?_ (fun _ _ _ _ => ?_) (fun _ _ _ _ => ?_) | with_reducible refine pw_oI ?_ | with_reducible refine pw_some ?_ ?_ | with_reducible refine pw_inl ?_ ?_ | with_reducible exact pw_none | assumption
set_option maxRecDepth 100000 in
theorem pr_bb_X7_split_113 {T L : Nat → Nat} {M : gMem} {x0 : Nat} {x1 : Option Nat} {x2 : Int32} {x3 : Int32} {x4 : Int32} {x5 : Int32} (hT : mT M = T) (hL : mL M = L) : PW (QS T L (QR T L)) (bb_X7_split_113 M x0 x1 x2 x3 x4 x5) := by
  unfold bb_X7_split_113
  repeat' first | with_reducible refine pr_b_X7_split_212 ?_ ?_ | with_reducible refine pw_ck ?_ | with_reducible refine pw_dr (fun _ => ?_) | with_reducible refine pw_if ?_ ?_ | with_reducible refine pw_lw ?_ | with_reducible refine pw_bd (T := T) (L := L) ?_ (fun _ _ _ _ => ?_) | with_reducible refine pw_bx (T := T) (L := L) ?_ (fun _ _ _ _ => ?_) (fun _ _ _ _ => ?_) | with_reducible refine pw_oI ?_ | with_reducible refine pw_some ?_ ?_ | with_reducible refine pw_inl ?_ ?_ | with_reducible exact pw_none | assumption
theorem pr_lp_X7_split_113 {T L : Nat → Nat} {M : gMem} {x0 : Nat} {x1 : Option Nat} {x2 : Int32} {x3 : Int32} {x4 : Int32} {x5 : Int32} (hT : mT M = T) (hL : mL M = L) : PW (QR T L) (lp_X7_split_113 M x0 x1 x2 x3 x4 x5) := by
  unfold lp_X7_split_113
  exact pw_lp hT hL (fun _ _ hT hL => pr_bb_X7_split_113 hT hL)
theorem pr_b_X7_split_69 {T L : Nat → Nat} {M : gMem} {x0 : Nat} {x1 : Option Nat} {x2 : Int32} {x3 : Int32} {x4 : Int32} {x5 : Option Nat} {s0 : Int32} (hT : mT M = T) (hL : mL M = L) : PW (QS T L (QR T L)) (b_X7_split_69 M x0 x1 x2 x3 x4 x5 s0) := by
  unfold b_X7_split_69
  repeat' first | with_reducible refine pw_ck ?_ | with_reducible refine pw_dr (fun _ => ?_) | with_reducible refine pw_if ?_ ?_ | with_reducible refine pw_lw ?_ | with_reducible refine pw_bd (T := T) (L := L) ?_ (fun _ _ _ _ => ?_) | with_reducible refine pw_bx (T := T) (L := L) ?_ (fun _ _ _ _ => ?_) (fun _ _ _ _ => ?_) | with_reducible refine pw_oI ?_ | with_reducible refine pw_some ?_ ?_ | with_reducible refine pw_inl ?_ ?_ | with_reducible exact pw_none | assumption
theorem pr_bb_X7_split_23 {T L : Nat → Nat} {M : gMem} {x0 : Nat} {x1 : Option Nat} {x2 : Int32} {x3 : Int32} {x4 : Int32} (hT : mT M = T) (hL : mL M = L) : PW (QS T L (QR T L)) (bb_X7_split_23 M x0 x1 x2 x3 x4) := by
  unfold bb_X7_split_23
  repeat' first | with_reducible refine pr_lp_X7_split_113 ?_ ?_ | with_reducible refine pr_b_X7_split_69 ?_ ?_ | with_reducible refine pw_ck ?_ | with_reducible refine pw_dr (fun _ => ?_) | with_reducible refine pw_if ?_ ?_ | with_reducible refine pw_lw ?_ | with_reducible refine pw_bd (T := T) (L := L) ?_ (fun _ _ _ _ => ?_) | with_reducible refine pw_bx (T := T) (L := L) ?_ (fun _ _ _ _ => ?_) (fun _ _ _ _ => ?_) | with_reducible refine pw_oI ?_ | with_reducible refine pw_some ?_ ?_ | with_reducible refine pw_inl ?_ ?_ | with_reducible exact pw_none | assumption
theorem pr_lp_X7_split_23 {T L : Nat → Nat} {M : gMem} {x0 : Nat} {x1 : Option Nat} {x2 : Int32} {x3 : Int32} {x4 : Int32} (hT : mT M = T) (hL : mL M = L) : PW (QR T L) (lp_X7_split_23 M x0 x1 x2 x3 x4) := by
  unfold lp_X7_split_23
  exact pw_lp hT hL (fun _ _ hT hL => pr_bb_X7_split_23 hT hL)
theorem pr_b_X7_split_15 {T L : Nat → Nat} {M : gMem} (hT : mT M = T) (hL : mL M = L) : PW (QR T L) (b_X7_split_15 M) := by
  unfold b_X7_split_15
  repeat' first | with_reducible refine pw_ck ?_ | with_reducible refine pw_dr (fun _ => ?_) | with_reducible refine pw_if ?_ ?_ | with_reducible refine pw_lw ?_ | with_reducible refine pw_bd (T := T) (L := L) ?_ (fun _ _ _ _ => ?_) | with_reducible refine pw_bx (T := T) (L := L) ?_ (fun _ _ _ _ => ?_) (fun _ _ _ _ => ?_) | with_reducible refine pw_oI ?_ | with_reducible refine pw_some ?_ ?_ | with_reducible refine pw_inl ?_ ?_ | with_reducible exact pw_none | assumption
theorem pr_b_X7_split_0 {T L : Nat → Nat} {M : gMem} {x0 : Nat} {x1 : Option Nat} (hT : mT M = T) (hL : mL M = L) : PW (QR T L) (b_X7_split_0 M x0 x1) := by
  unfold b_X7_split_0
  repeat' first | with_reducible refine pr_f_X5_splits ?_ ?_ | with_reducible refine pr_b_X7_split_15 ?_ ?_ | with_reducible refine pr_lp_X7_split_23 ?_ ?_ | with_reducible refine pw_ck ?_ | with_reducible refine pw_dr (fun _ => ?_) | with_reducible refine pw_if ?_ ?_ | with_reducible refine pw_lw ?_ | with_reducible refine pw_bd (T := T) (L := L) ?_ (fun _ _ _ _ => ?_) | with_reducible refine pw_bx (T := T) (L := L) ?_ (fun _ _ _ _ => ?_) (fun _ _ _ _ => ?_) | with_reducible refine pw_oI ?_ | with_reducible refine pw_some ?_ ?_ | with_reducible refine pw_inl ?_ ?_ | with_reducible exact pw_none | assumption
theorem pr_f_X7_split {T L : Nat → Nat} {M : gMem} {x0 : Nat} {x1 : Option Nat} (hT : mT M = T) (hL : mL M = L) : PW (QR T L) (f_X7_split M x0 x1) := by
  unfold f_X7_split
  repeat' first | with_reducible refine pr_b_X7_split_0 ?_ ?_ | with_reducible refine pw_ck ?_ | with_reducible refine pw_dr (fun _ => ?_) | with_reducible refine pw_if ?_ ?_ | with_reducible refine pw_lw ?_ | with_reducible refine pw_bd (T := T) (L := L) ?_ (fun _ _ _ _ => ?_) | with_reducible refine pw_bx (T := T) (L := L) ?_ (fun _ _ _ _ => ?_) (fun _ _ _ _ => ?_) | with_reducible refine pw_oI ?_ | with_reducible refine pw_some ?_ ?_ | with_reducible refine pw_inl ?_ ?_ | with_reducible exact pw_none | assumption
theorem pr_bb_X7_storeCatches_4 {T L : Nat → Nat} {M : gMem} {x0 : Nat} {x1 : Int32} {x2 : Int32} (hT : mT M = T) (hL : mL M = L) : PW (QS T L (QR T L)) (bb_X7_storeCatches_4 M x0 x1 x2) := by
  unfold bb_X7_storeCatches_4
  repeat' first | with_reducible refine pw_ck ?_ | with_reducible refine pw_dr (fun _ => ?_) | with_reducible refine pw_if ?_ ?_ | with_reducible refine pw_lw ?_ | with_reducible refine pw_bd (T := T) (L := L) ?_ (fun _ _ _ _ => ?_) | with_reducible refine pw_bx (T := T) (L := L) ?_ (fun _ _ _ _ => ?_) (fun _ _ _ _ => ?_) | with_reducible refine pw_oI ?_ | with_reducible refine pw_some ?_ ?_ | with_reducible refine pw_inl ?_ ?_ | with_reducible exact pw_none | assumption
theorem pr_lp_X7_storeCatches_4 {T L : Nat → Nat} {M : gMem} {x0 : Nat} {x1 : Int32} {x2 : Int32} (hT : mT M = T) (hL : mL M = L) : PW (QR T L) (lp_X7_storeCatches_4 M x0 x1 x2) := by
  unfold lp_X7_storeCatches_4
  exact pw_lp hT hL (fun _ _ hT hL => pr_bb_X7_storeCatches_4 hT hL)
theorem pr_b_X7_storeCatches_0 {T L : Nat → Nat} {M : gMem} {x0 : Nat} (hT : mT M = T) (hL : mL M = L) : PW (QR T L) (b_X7_storeCatches_0 M x0) := by
  unfold b_X7_storeCatches_0
  repeat' first | with_reducible refine pr_lp_X7_storeCatches_4 ?_ ?_ | with_reducible refine pw_ck ?_ | with_reducible refine pw_dr (fun _ => ?_) | with_reducible refine pw_if ?_ ?_ | with_reducible refine pw_lw ?_ | with_reducible refine pw_bd (T := T) (L := L) ?_ (fun _ _ _ _ => ?_) | with_reducible refine pw_bx (T := T) (L := L) ?_ (fun _ _ _ _ => ?_) (fun _ _ _ _ => ?_) | with_reducible refine pw_oI ?_ | with_reducible refine pw_some ?_ ?_ | with_reducible refine pw_inl ?_ ?_ | with_reducible exact pw_none | assumption
theorem pr_f_X7_storeCatches {T L : Nat → Nat} {M : gMem} {x0 : Nat} (hT : mT M = T) (hL : mL M = L) : PW (QR T L) (f_X7_storeCatches M x0) := by
  unfold f_X7_storeCatches
  repeat' first | with_reducible refine pr_b_X7_storeCatches_0 ?_ ?_ | with_reducible refine pw_ck ?_ | with_reducible refine pw_dr (fun _ => ?_) | with_reducible refine pw_if ?_ ?_ | with_reducible refine pw_lw ?_ | with_reducible refine pw_bd (T := T) (L := L) ?_ (fun _ _ _ _ => ?_) | with_reducible refine pw_bx (T := T) (L := L) ?_ (fun _ _ _ _ => ?_) (fun _ _ _ _ => ?_) | with_reducible refine pw_oI ?_ | with_reducible refine pw_some ?_ ?_ | with_reducible refine pw_inl ?_ ?_ | with_reducible exact pw_none | assumption
theorem pr_bb_X7_passTides_100 {T L : Nat → Nat} {Z : Nat → Nat} {M : gMem} {x0 : Nat} {x1 : Int32} {x2 : Int32} {x3 : Int32} {x4 : Int32} (hT : mT M = T) (hL : mL M = L) : PW (QS T L (QS T L (QR T L))) (bb_X7_passTides_100 Z M x0 x1 x2 x3 x4) := by
  unfold bb_X7_passTides_100
  repeat' first | with_reducible refine pr_f_X3_grow ?_ ?_ | with_reducible refine pw_ck ?_ | with_reducible refine pw_dr (fun _ => ?_) | with_reducible refine pw_if ?_ ?_ | with_reducible refine pw_lw ?_ | with_reducible refine pw_bd (T := T) (L := L) ?_ (fun _ _ _ _ => ?_) | with_reducible refine pw_bx (T := T) (L := L) ?_ (fun _ _ _ _ => ?_) (fun _ _ _ _ => ?_) | with_reducible refine pw_oI ?_ | with_reducible refine pw_some ?_ ?_ | with_reducible refine pw_inl ?_ ?_ | with_reducible exact pw_none | assumption
theorem pr_lp_X7_passTides_100 {T L : Nat → Nat} {Z : Nat → Nat} {M : gMem} {x0 : Nat} {x1 : Int32} {x2 : Int32} {x3 : Int32} {x4 : Int32} (hT : mT M = T) (hL : mL M = L) : PW (QS T L (QR T L)) (lp_X7_passTides_100 Z M x0 x1 x2 x3 x4) := by
  unfold lp_X7_passTides_100
  exact pw_lp hT hL (fun _ _ hT hL => pr_bb_X7_passTides_100 hT hL)
theorem pr_bb_X7_passTides_64 {T L : Nat → Nat} {Z : Nat → Nat} {M : gMem} {x0 : Nat} {x1 : Int32} {x2 : Int32} {x3 : Int32} {x4 : Int32} (hT : mT M = T) (hL : mL M = L) : PW (QS T L (QS T L (QR T L))) (bb_X7_passTides_64 Z M x0 x1 x2 x3 x4) := by
  unfold bb_X7_passTides_64
  repeat' first | with_reducible refine pr_f_X7_storeCatches ?_ ?_ | with_reducible refine pr_lp_X7_passTides_100 ?_ ?_ | with_reducible refine pr_f_X7_split ?_ ?_ | with_reducible refine pw_ck ?_ | with_reducible refine pw_dr (fun _ => ?_) | with_reducible refine pw_if ?_ ?_ | with_reducible refine pw_lw ?_ | with_reducible refine pw_bd (T := T) (L := L) ?_ (fun _ _ _ _ => ?_) | with_reducible refine pw_bx (T := T) (L := L) ?_ (fun _ _ _ _ => ?_) (fun _ _ _ _ => ?_) | with_reducible refine pw_oI ?_ | with_reducible refine pw_some ?_ ?_ | with_reducible refine pw_inl ?_ ?_ | with_reducible exact pw_none | assumption
theorem pr_lp_X7_passTides_64 {T L : Nat → Nat} {Z : Nat → Nat} {M : gMem} {x0 : Nat} {x1 : Int32} {x2 : Int32} {x3 : Int32} {x4 : Int32} (hT : mT M = T) (hL : mL M = L) : PW (QS T L (QR T L)) (lp_X7_passTides_64 Z M x0 x1 x2 x3 x4) := by
  unfold lp_X7_passTides_64
  exact pw_lp hT hL (fun _ _ hT hL => pr_bb_X7_passTides_64 hT hL)
theorem pr_bb_X7_passTides_24 {T L : Nat → Nat} {Z : Nat → Nat} {M : gMem} {x0 : Nat} {x1 : Int32} {x2 : Int32} {x3 : Int32} {x4 : Int32} (hT : mT M = T) (hL : mL M = L) : PW (QS T L (QS T L (QR T L))) (bb_X7_passTides_24 Z M x0 x1 x2 x3 x4) := by
  unfold bb_X7_passTides_24
  repeat' first | with_reducible refine pr_lp_X7_passTides_64 ?_ ?_ | with_reducible refine pr_f_X7_firstGo ?_ ?_ | with_reducible refine pr_f_X7_sail ?_ ?_ | with_reducible refine pw_ck ?_ | with_reducible refine pw_dr (fun _ => ?_) | with_reducible refine pw_if ?_ ?_ | with_reducible refine pw_lw ?_ | with_reducible refine pw_bd (T := T) (L := L) ?_ (fun _ _ _ _ => ?_) | with_reducible refine pw_bx (T := T) (L := L) ?_ (fun _ _ _ _ => ?_) (fun _ _ _ _ => ?_) | with_reducible refine pw_oI ?_ | with_reducible refine pw_some ?_ ?_ | with_reducible refine pw_inl ?_ ?_ | with_reducible exact pw_none | assumption
theorem pr_lp_X7_passTides_24 {T L : Nat → Nat} {Z : Nat → Nat} {M : gMem} {x0 : Nat} {x1 : Int32} {x2 : Int32} {x3 : Int32} {x4 : Int32} (hT : mT M = T) (hL : mL M = L) : PW (QS T L (QR T L)) (lp_X7_passTides_24 Z M x0 x1 x2 x3 x4) := by
  unfold lp_X7_passTides_24
  exact pw_lp hT hL (fun _ _ hT hL => pr_bb_X7_passTides_24 hT hL)
theorem pr_bb_X7_passTides_4 {T L : Nat → Nat} {Z : Nat → Nat} {M : gMem} {x0 : Nat} {x1 : Int32} {x2 : Int32} {x3 : Int32} (hT : mT M = T) (hL : mL M = L) : PW (QS T L (QR T L)) (bb_X7_passTides_4 Z M x0 x1 x2 x3) := by
  unfold bb_X7_passTides_4
  repeat' first | with_reducible refine pr_f_X7_drawLots ?_ ?_ | with_reducible refine pr_f_X7_callBoatsHome ?_ ?_ | with_reducible refine pr_lp_X7_passTides_24 ?_ ?_ | with_reducible refine pw_ck ?_ | with_reducible refine pw_dr (fun _ => ?_) | with_reducible refine pw_if ?_ ?_ | with_reducible refine pw_lw ?_ | with_reducible refine pw_bd (T := T) (L := L) ?_ (fun _ _ _ _ => ?_) | with_reducible refine pw_bx (T := T) (L := L) ?_ (fun _ _ _ _ => ?_) (fun _ _ _ _ => ?_) | with_reducible refine pw_oI ?_ | with_reducible refine pw_some ?_ ?_ | with_reducible refine pw_inl ?_ ?_ | with_reducible exact pw_none | assumption
theorem pr_lp_X7_passTides_4 {T L : Nat → Nat} {Z : Nat → Nat} {M : gMem} {x0 : Nat} {x1 : Int32} {x2 : Int32} {x3 : Int32} (hT : mT M = T) (hL : mL M = L) : PW (QR T L) (lp_X7_passTides_4 Z M x0 x1 x2 x3) := by
  unfold lp_X7_passTides_4
  exact pw_lp hT hL (fun _ _ hT hL => pr_bb_X7_passTides_4 hT hL)
theorem pr_b_X7_passTides_0 {T L : Nat → Nat} {Z : Nat → Nat} {M : gMem} {x0 : Nat} {x1 : Int32} (hT : mT M = T) (hL : mL M = L) : PW (QR T L) (b_X7_passTides_0 Z M x0 x1) := by
  unfold b_X7_passTides_0
  repeat' first | with_reducible refine pr_lp_X7_passTides_4 ?_ ?_ | with_reducible refine pw_ck ?_ | with_reducible refine pw_dr (fun _ => ?_) | with_reducible refine pw_if ?_ ?_ | with_reducible refine pw_lw ?_ | with_reducible refine pw_bd (T := T) (L := L) ?_ (fun _ _ _ _ => ?_) | with_reducible refine pw_bx (T := T) (L := L) ?_ (fun _ _ _ _ => ?_) (fun _ _ _ _ => ?_) | with_reducible refine pw_oI ?_ | with_reducible refine pw_some ?_ ?_ | with_reducible refine pw_inl ?_ ?_ | with_reducible exact pw_none | assumption
theorem pr_f_X7_passTides {T L : Nat → Nat} {Z : Nat → Nat} {M : gMem} {x0 : Nat} {x1 : Int32} (hT : mT M = T) (hL : mL M = L) : PW (QR T L) (f_X7_passTides Z M x0 x1) := by
  unfold f_X7_passTides
  repeat' first | with_reducible refine pr_b_X7_passTides_0 ?_ ?_ | with_reducible refine pw_ck ?_ | with_reducible refine pw_dr (fun _ => ?_) | with_reducible refine pw_if ?_ ?_ | with_reducible refine pw_lw ?_ | with_reducible refine pw_bd (T := T) (L := L) ?_ (fun _ _ _ _ => ?_) | with_reducible refine pw_bx (T := T) (L := L) ?_ (fun _ _ _ _ => ?_) (fun _ _ _ _ => ?_) | with_reducible refine pw_oI ?_ | with_reducible refine pw_some ?_ ?_ | with_reducible refine pw_inl ?_ ?_ | with_reducible exact pw_none | assumption
theorem pr_b_X10_append_42 {T L : Nat → Nat} {M : gMem} {x0 : Nat} {x1 : Int32} {x2 : Int32} (hT : mT M = T) (hL : mL M = L) : PW (QS T L (QR T L)) (b_X10_append_42 M x0 x1 x2) := by
  unfold b_X10_append_42
  repeat' first | with_reducible refine pw_ck ?_ | with_reducible refine pw_dr (fun _ => ?_) | with_reducible refine pw_if ?_ ?_ | with_reducible refine pw_lw ?_ | with_reducible refine pw_bd (T := T) (L := L) ?_ (fun _ _ _ _ => ?_) | with_reducible refine pw_bx (T := T) (L := L) ?_ (fun _ _ _ _ => ?_) (fun _ _ _ _ => ?_) | with_reducible refine pw_oI ?_ | with_reducible refine pw_some ?_ ?_ | with_reducible refine pw_inl ?_ ?_ | with_reducible exact pw_none | assumption
theorem pr_bb_X10_append_3 {T L : Nat → Nat} {M : gMem} {x0 : Nat} {x1 : Int32} {x2 : Int32} (hT : mT M = T) (hL : mL M = L) : PW (QS T L (QR T L)) (bb_X10_append_3 M x0 x1 x2) := by
  unfold bb_X10_append_3
  repeat' first | with_reducible refine pr_b_X10_append_42 ?_ ?_ | with_reducible refine pw_ck ?_ | with_reducible refine pw_dr (fun _ => ?_) | with_reducible refine pw_if ?_ ?_ | with_reducible refine pw_lw ?_ | with_reducible refine pw_bd (T := T) (L := L) ?_ (fun _ _ _ _ => ?_) | with_reducible refine pw_bx (T := T) (L := L) ?_ (fun _ _ _ _ => ?_) (fun _ _ _ _ => ?_) | with_reducible refine pw_oI ?_ | with_reducible refine pw_some ?_ ?_ | with_reducible refine pw_inl ?_ ?_ | with_reducible exact pw_none | assumption
theorem pr_lp_X10_append_3 {T L : Nat → Nat} {M : gMem} {x0 : Nat} {x1 : Int32} {x2 : Int32} (hT : mT M = T) (hL : mL M = L) : PW (QR T L) (lp_X10_append_3 M x0 x1 x2) := by
  unfold lp_X10_append_3
  exact pw_lp hT hL (fun _ _ hT hL => pr_bb_X10_append_3 hT hL)
theorem pr_b_X10_append_0 {T L : Nat → Nat} {M : gMem} {x0 : Nat} {x1 : Int32} (hT : mT M = T) (hL : mL M = L) : PW (QR T L) (b_X10_append_0 M x0 x1) := by
  unfold b_X10_append_0
  repeat' first | with_reducible refine pr_lp_X10_append_3 ?_ ?_ | with_reducible refine pw_ck ?_ | with_reducible refine pw_dr (fun _ => ?_) | with_reducible refine pw_if ?_ ?_ | with_reducible refine pw_lw ?_ | with_reducible refine pw_bd (T := T) (L := L) ?_ (fun _ _ _ _ => ?_) | with_reducible refine pw_bx (T := T) (L := L) ?_ (fun _ _ _ _ => ?_) (fun _ _ _ _ => ?_) | with_reducible refine pw_oI ?_ | with_reducible refine pw_some ?_ ?_ | with_reducible refine pw_inl ?_ ?_ | with_reducible exact pw_none | assumption
theorem pr_f_X10_append {T L : Nat → Nat} {M : gMem} {x0 : Nat} {x1 : Int32} (hT : mT M = T) (hL : mL M = L) : PW (QR T L) (f_X10_append M x0 x1) := by
  unfold f_X10_append
  repeat' first | with_reducible refine pr_b_X10_append_0 ?_ ?_ | with_reducible refine pw_ck ?_ | with_reducible refine pw_dr (fun _ => ?_) | with_reducible refine pw_if ?_ ?_ | with_reducible refine pw_lw ?_ | with_reducible refine pw_bd (T := T) (L := L) ?_ (fun _ _ _ _ => ?_) | with_reducible refine pw_bx (T := T) (L := L) ?_ (fun _ _ _ _ => ?_) (fun _ _ _ _ => ?_) | with_reducible refine pw_oI ?_ | with_reducible refine pw_some ?_ ?_ | with_reducible refine pw_inl ?_ ?_ | with_reducible exact pw_none | assumption
theorem pr_b_X11_checkGround_15 {T L : Nat → Nat} {M : gMem} (hT : mT M = T) (hL : mL M = L) : PW (QR T L) (b_X11_checkGround_15 M) := by
  unfold b_X11_checkGround_15
  repeat' first | with_reducible refine pw_ck ?_ | with_reducible refine pw_dr (fun _ => ?_) | with_reducible refine pw_if ?_ ?_ | with_reducible refine pw_lw ?_ | with_reducible refine pw_bd (T := T) (L := L) ?_ (fun _ _ _ _ => ?_) | with_reducible refine pw_bx (T := T) (L := L) ?_ (fun _ _ _ _ => ?_) (fun _ _ _ _ => ?_) | with_reducible refine pw_oI ?_ | with_reducible refine pw_some ?_ ?_ | with_reducible refine pw_inl ?_ ?_ | with_reducible exact pw_none | assumption
theorem pr_b_X11_checkGround_0 {T L : Nat → Nat} {M : gMem} {x0 : Nat} {x1 : Int32} (hT : mT M = T) (hL : mL M = L) : PW (QR T L) (b_X11_checkGround_0 M x0 x1) := by
  unfold b_X11_checkGround_0
  repeat' first | with_reducible refine pr_b_X11_checkGround_15 ?_ ?_ | with_reducible refine pw_ck ?_ | with_reducible refine pw_dr (fun _ => ?_) | with_reducible refine pw_if ?_ ?_ | with_reducible refine pw_lw ?_ | with_reducible refine pw_bd (T := T) (L := L) ?_ (fun _ _ _ _ => ?_) | with_reducible refine pw_bx (T := T) (L := L) ?_ (fun _ _ _ _ => ?_) (fun _ _ _ _ => ?_) | with_reducible refine pw_oI ?_ | with_reducible refine pw_some ?_ ?_ | with_reducible refine pw_inl ?_ ?_ | with_reducible exact pw_none | assumption
theorem pr_f_X11_checkGround {T L : Nat → Nat} {M : gMem} {x0 : Nat} {x1 : Int32} (hT : mT M = T) (hL : mL M = L) : PW (QR T L) (f_X11_checkGround M x0 x1) := by
  unfold f_X11_checkGround
  repeat' first | with_reducible refine pr_b_X11_checkGround_0 ?_ ?_ | with_reducible refine pw_ck ?_ | with_reducible refine pw_dr (fun _ => ?_) | with_reducible refine pw_if ?_ ?_ | with_reducible refine pw_lw ?_ | with_reducible refine pw_bd (T := T) (L := L) ?_ (fun _ _ _ _ => ?_) | with_reducible refine pw_bx (T := T) (L := L) ?_ (fun _ _ _ _ => ?_) (fun _ _ _ _ => ?_) | with_reducible refine pw_oI ?_ | with_reducible refine pw_some ?_ ?_ | with_reducible refine pw_inl ?_ ?_ | with_reducible exact pw_none | assumption
theorem pr_b_X11_checkFisher_15 {T L : Nat → Nat} {M : gMem} (hT : mT M = T) (hL : mL M = L) : PW (QR T L) (b_X11_checkFisher_15 M) := by
  unfold b_X11_checkFisher_15
  repeat' first | with_reducible refine pw_ck ?_ | with_reducible refine pw_dr (fun _ => ?_) | with_reducible refine pw_if ?_ ?_ | with_reducible refine pw_lw ?_ | with_reducible refine pw_bd (T := T) (L := L) ?_ (fun _ _ _ _ => ?_) | with_reducible refine pw_bx (T := T) (L := L) ?_ (fun _ _ _ _ => ?_) (fun _ _ _ _ => ?_) | with_reducible refine pw_oI ?_ | with_reducible refine pw_some ?_ ?_ | with_reducible refine pw_inl ?_ ?_ | with_reducible exact pw_none | assumption
theorem pr_b_X11_checkFisher_0 {T L : Nat → Nat} {M : gMem} {x0 : Nat} {x1 : Int32} (hT : mT M = T) (hL : mL M = L) : PW (QR T L) (b_X11_checkFisher_0 M x0 x1) := by
  unfold b_X11_checkFisher_0
  repeat' first | with_reducible refine pr_b_X11_checkFisher_15 ?_ ?_ | with_reducible refine pw_ck ?_ | with_reducible refine pw_dr (fun _ => ?_) | with_reducible refine pw_if ?_ ?_ | with_reducible refine pw_lw ?_ | with_reducible refine pw_bd (T := T) (L := L) ?_ (fun _ _ _ _ => ?_) | with_reducible refine pw_bx (T := T) (L := L) ?_ (fun _ _ _ _ => ?_) (fun _ _ _ _ => ?_) | with_reducible refine pw_oI ?_ | with_reducible refine pw_some ?_ ?_ | with_reducible refine pw_inl ?_ ?_ | with_reducible exact pw_none | assumption
theorem pr_f_X11_checkFisher {T L : Nat → Nat} {M : gMem} {x0 : Nat} {x1 : Int32} (hT : mT M = T) (hL : mL M = L) : PW (QR T L) (f_X11_checkFisher M x0 x1) := by
  unfold f_X11_checkFisher
  repeat' first | with_reducible refine pr_b_X11_checkFisher_0 ?_ ?_ | with_reducible refine pw_ck ?_ | with_reducible refine pw_dr (fun _ => ?_) | with_reducible refine pw_if ?_ ?_ | with_reducible refine pw_lw ?_ | with_reducible refine pw_bd (T := T) (L := L) ?_ (fun _ _ _ _ => ?_) | with_reducible refine pw_bx (T := T) (L := L) ?_ (fun _ _ _ _ => ?_) (fun _ _ _ _ => ?_) | with_reducible refine pw_oI ?_ | with_reducible refine pw_some ?_ ?_ | with_reducible refine pw_inl ?_ ?_ | with_reducible exact pw_none | assumption
theorem pr_b_X11_checkTides_10 {T L : Nat → Nat} {M : gMem} (hT : mT M = T) (hL : mL M = L) : PW (QR T L) (b_X11_checkTides_10 M) := by
  unfold b_X11_checkTides_10
  repeat' first | with_reducible refine pw_ck ?_ | with_reducible refine pw_dr (fun _ => ?_) | with_reducible refine pw_if ?_ ?_ | with_reducible refine pw_lw ?_ | with_reducible refine pw_bd (T := T) (L := L) ?_ (fun _ _ _ _ => ?_) | with_reducible refine pw_bx (T := T) (L := L) ?_ (fun _ _ _ _ => ?_) (fun _ _ _ _ => ?_) | with_reducible refine pw_oI ?_ | with_reducible refine pw_some ?_ ?_ | with_reducible refine pw_inl ?_ ?_ | with_reducible exact pw_none | assumption
theorem pr_b_X11_checkTides_0 {T L : Nat → Nat} {M : gMem} {x0 : Int32} {x1 : Int32} (hT : mT M = T) (hL : mL M = L) : PW (QR T L) (b_X11_checkTides_0 M x0 x1) := by
  unfold b_X11_checkTides_0
  repeat' first | with_reducible refine pr_b_X11_checkTides_10 ?_ ?_ | with_reducible refine pw_ck ?_ | with_reducible refine pw_dr (fun _ => ?_) | with_reducible refine pw_if ?_ ?_ | with_reducible refine pw_lw ?_ | with_reducible refine pw_bd (T := T) (L := L) ?_ (fun _ _ _ _ => ?_) | with_reducible refine pw_bx (T := T) (L := L) ?_ (fun _ _ _ _ => ?_) (fun _ _ _ _ => ?_) | with_reducible refine pw_oI ?_ | with_reducible refine pw_some ?_ ?_ | with_reducible refine pw_inl ?_ ?_ | with_reducible exact pw_none | assumption
theorem pr_f_X11_checkTides {T L : Nat → Nat} {M : gMem} {x0 : Int32} {x1 : Int32} (hT : mT M = T) (hL : mL M = L) : PW (QR T L) (f_X11_checkTides M x0 x1) := by
  unfold f_X11_checkTides
  repeat' first | with_reducible refine pr_b_X11_checkTides_0 ?_ ?_ | with_reducible refine pw_ck ?_ | with_reducible refine pw_dr (fun _ => ?_) | with_reducible refine pw_if ?_ ?_ | with_reducible refine pw_lw ?_ | with_reducible refine pw_bd (T := T) (L := L) ?_ (fun _ _ _ _ => ?_) | with_reducible refine pw_bx (T := T) (L := L) ?_ (fun _ _ _ _ => ?_) (fun _ _ _ _ => ?_) | with_reducible refine pw_oI ?_ | with_reducible refine pw_some ?_ ?_ | with_reducible refine pw_inl ?_ ?_ | with_reducible exact pw_none | assumption
theorem pr_b_X11_lookAhead_0 {T L : Nat → Nat} {Z : Nat → Nat} {M : gMem} {x0 : Nat} (hT : mT M = T) (hL : mL M = L) : PW (QR T L) (b_X11_lookAhead_0 Z M x0) := by
  unfold b_X11_lookAhead_0
  repeat' first | with_reducible refine pr_f_X7_copyFrom ?_ ?_ | with_reducible refine pw_ck ?_ | with_reducible refine pw_dr (fun _ => ?_) | with_reducible refine pw_if ?_ ?_ | with_reducible refine pw_lw ?_ | with_reducible refine pw_bd (T := T) (L := L) ?_ (fun _ _ _ _ => ?_) | with_reducible refine pw_bx (T := T) (L := L) ?_ (fun _ _ _ _ => ?_) (fun _ _ _ _ => ?_) | with_reducible refine pw_oI ?_ | with_reducible refine pw_some ?_ ?_ | with_reducible refine pw_inl ?_ ?_ | with_reducible exact pw_none | assumption
theorem pr_f_X11_lookAhead {T L : Nat → Nat} {Z : Nat → Nat} {M : gMem} {x0 : Nat} (hT : mT M = T) (hL : mL M = L) : PW (QR T L) (f_X11_lookAhead Z M x0) := by
  unfold f_X11_lookAhead
  repeat' first | with_reducible refine pr_b_X11_lookAhead_0 ?_ ?_ | with_reducible refine pw_ck ?_ | with_reducible refine pw_dr (fun _ => ?_) | with_reducible refine pw_if ?_ ?_ | with_reducible refine pw_lw ?_ | with_reducible refine pw_bd (T := T) (L := L) ?_ (fun _ _ _ _ => ?_) | with_reducible refine pw_bx (T := T) (L := L) ?_ (fun _ _ _ _ => ?_) (fun _ _ _ _ => ?_) | with_reducible refine pw_oI ?_ | with_reducible refine pw_some ?_ ?_ | with_reducible refine pw_inl ?_ ?_ | with_reducible exact pw_none | assumption
theorem pr_b_X11_feed_0 {T L : Nat → Nat} {M : gMem} {x0 : Nat} {x1 : Int32} {x2 : Int32} {x3 : Int32} {x4 : Int32} {x5 : Int32} (hT : mT M = T) (hL : mL M = L) : PW (QR T L) (b_X11_feed_0 M x0 x1 x2 x3 x4 x5) := by
  unfold b_X11_feed_0
  repeat' first | with_reducible refine pr_f_X10_append ?_ ?_ | with_reducible refine pw_ck ?_ | with_reducible refine pw_dr (fun _ => ?_) | with_reducible refine pw_if ?_ ?_ | with_reducible refine pw_lw ?_ | with_reducible refine pw_bd (T := T) (L := L) ?_ (fun _ _ _ _ => ?_) | with_reducible refine pw_bx (T := T) (L := L) ?_ (fun _ _ _ _ => ?_) (fun _ _ _ _ => ?_) | with_reducible refine pw_oI ?_ | with_reducible refine pw_some ?_ ?_ | with_reducible refine pw_inl ?_ ?_ | with_reducible exact pw_none | assumption
theorem pr_f_X11_feed {T L : Nat → Nat} {M : gMem} {x0 : Nat} {x1 : Int32} {x2 : Int32} {x3 : Int32} {x4 : Int32} {x5 : Int32} (hT : mT M = T) (hL : mL M = L) : PW (QR T L) (f_X11_feed M x0 x1 x2 x3 x4 x5) := by
  unfold f_X11_feed
  repeat' first | with_reducible refine pr_b_X11_feed_0 ?_ ?_ | with_reducible refine pw_ck ?_ | with_reducible refine pw_dr (fun _ => ?_) | with_reducible refine pw_if ?_ ?_ | with_reducible refine pw_lw ?_ | with_reducible refine pw_bd (T := T) (L := L) ?_ (fun _ _ _ _ => ?_) | with_reducible refine pw_bx (T := T) (L := L) ?_ (fun _ _ _ _ => ?_) (fun _ _ _ _ => ?_) | with_reducible refine pw_oI ?_ | with_reducible refine pw_some ?_ ?_ | with_reducible refine pw_inl ?_ ?_ | with_reducible exact pw_none | assumption
theorem pr_b_X11_trim_15 {T L : Nat → Nat} {M : gMem} (hT : mT M = T) (hL : mL M = L) : PW (QR T L) (b_X11_trim_15 M) := by
  unfold b_X11_trim_15
  repeat' first | with_reducible refine pw_ck ?_ | with_reducible refine pw_dr (fun _ => ?_) | with_reducible refine pw_if ?_ ?_ | with_reducible refine pw_lw ?_ | with_reducible refine pw_bd (T := T) (L := L) ?_ (fun _ _ _ _ => ?_) | with_reducible refine pw_bx (T := T) (L := L) ?_ (fun _ _ _ _ => ?_) (fun _ _ _ _ => ?_) | with_reducible refine pw_oI ?_ | with_reducible refine pw_some ?_ ?_ | with_reducible refine pw_inl ?_ ?_ | with_reducible exact pw_none | assumption
theorem pr_b_X11_trim_0 {T L : Nat → Nat} {M : gMem} {x0 : Nat} {x1 : Int32} (hT : mT M = T) (hL : mL M = L) : PW (QR T L) (b_X11_trim_0 M x0 x1) := by
  unfold b_X11_trim_0
  repeat' first | with_reducible refine pr_b_X11_trim_15 ?_ ?_ | with_reducible refine pw_ck ?_ | with_reducible refine pw_dr (fun _ => ?_) | with_reducible refine pw_if ?_ ?_ | with_reducible refine pw_lw ?_ | with_reducible refine pw_bd (T := T) (L := L) ?_ (fun _ _ _ _ => ?_) | with_reducible refine pw_bx (T := T) (L := L) ?_ (fun _ _ _ _ => ?_) (fun _ _ _ _ => ?_) | with_reducible refine pw_oI ?_ | with_reducible refine pw_some ?_ ?_ | with_reducible refine pw_inl ?_ ?_ | with_reducible exact pw_none | assumption
theorem pr_f_X11_trim {T L : Nat → Nat} {M : gMem} {x0 : Nat} {x1 : Int32} (hT : mT M = T) (hL : mL M = L) : PW (QR T L) (f_X11_trim M x0 x1) := by
  unfold f_X11_trim
  repeat' first | with_reducible refine pr_b_X11_trim_0 ?_ ?_ | with_reducible refine pw_ck ?_ | with_reducible refine pw_dr (fun _ => ?_) | with_reducible refine pw_if ?_ ?_ | with_reducible refine pw_lw ?_ | with_reducible refine pw_bd (T := T) (L := L) ?_ (fun _ _ _ _ => ?_) | with_reducible refine pw_bx (T := T) (L := L) ?_ (fun _ _ _ _ => ?_) (fun _ _ _ _ => ?_) | with_reducible refine pw_oI ?_ | with_reducible refine pw_some ?_ ?_ | with_reducible refine pw_inl ?_ ?_ | with_reducible exact pw_none | assumption
set_option maxRecDepth 100000 in
theorem pr_b_X11_count_0 {T L : Nat → Nat} {M : gMem} {x0 : Nat} {x1 : Int32} (hT : mT M = T) (hL : mL M = L) : PW (QR T L) (b_X11_count_0 M x0 x1) := by
  unfold b_X11_count_0
  repeat' first | with_reducible refine pr_f_X7_allFish ?_ ?_ | with_reducible refine pr_f_X7_allStores ?_ ?_ | with_reducible refine pr_f_X7_widenedNets ?_ ?_ | with_reducible refine pr_f_X7_allCheats ?_ ?_ | with_reducible refine pw_ck ?_ | with_reducible refine pw_dr (fun _ => ?_) | with_reducible refine pw_if ?_ ?_ | with_reducible refine pw_lw ?_ | with_reducible refine pw_bd (T := T) (L := L) ?_ (fun _ _ _ _ => ?_) | with_reducible refine pw_bx (T := T) (L := L) ?_ (fun _ _ _ _ => ?_) (fun _ _ _ _ => ?_) | with_reducible refine pw_oI ?_ | with_reducible refine pw_some ?_ ?_ | with_reducible refine pw_inl ?_ ?_ | with_reducible exact pw_none | assumption
theorem pr_f_X11_count {T L : Nat → Nat} {M : gMem} {x0 : Nat} {x1 : Int32} (hT : mT M = T) (hL : mL M = L) : PW (QR T L) (f_X11_count M x0 x1) := by
  unfold f_X11_count
  repeat' first | with_reducible refine pr_b_X11_count_0 ?_ ?_ | with_reducible refine pw_ck ?_ | with_reducible refine pw_dr (fun _ => ?_) | with_reducible refine pw_if ?_ ?_ | with_reducible refine pw_lw ?_ | with_reducible refine pw_bd (T := T) (L := L) ?_ (fun _ _ _ _ => ?_) | with_reducible refine pw_bx (T := T) (L := L) ?_ (fun _ _ _ _ => ?_) (fun _ _ _ _ => ?_) | with_reducible refine pw_oI ?_ | with_reducible refine pw_some ?_ ?_ | with_reducible refine pw_inl ?_ ?_ | with_reducible exact pw_none | assumption
theorem pr_b_X11_ground_73 {T L : Nat → Nat} {M : gMem} {x2 : Int32} {x3 : Option Nat} (hT : mT M = T) (hL : mL M = L) : PW (QR T L) (b_X11_ground_73 M x2 x3) := by
  unfold b_X11_ground_73
  repeat' first | with_reducible refine pw_ck ?_ | with_reducible refine pw_dr (fun _ => ?_) | with_reducible refine pw_if ?_ ?_ | with_reducible refine pw_lw ?_ | with_reducible refine pw_bd (T := T) (L := L) ?_ (fun _ _ _ _ => ?_) | with_reducible refine pw_bx (T := T) (L := L) ?_ (fun _ _ _ _ => ?_) (fun _ _ _ _ => ?_) | with_reducible refine pw_oI ?_ | with_reducible refine pw_some ?_ ?_ | with_reducible refine pw_inl ?_ ?_ | with_reducible exact pw_none | assumption
set_option maxRecDepth 100000 in
theorem pr_b_X11_ground_0 {T L : Nat → Nat} {M : gMem} {x0 : Nat} {x1 : Int32} {x2 : Int32} (hT : mT M = T) (hL : mL M = L) : PW (QR T L) (b_X11_ground_0 M x0 x1 x2) := by
  unfold b_X11_ground_0
  repeat' first | with_reducible refine pr_f_X11_checkGround ?_ ?_ | with_reducible refine pr_f_X3_allFish ?_ ?_ | with_reducible refine pr_b_X11_ground_73 ?_ ?_ | with_reducible refine pw_ck ?_ | with_reducible refine pw_dr (fun _ => ?_) | with_reducible refine pw_if ?_ ?_ | with_reducible refine pw_lw ?_ | with_reducible refine pw_bd (T := T) (L := L) ?_ (fun _ _ _ _ => ?_) | with_reducible refine pw_bx (T := T) (L := L) ?_ (fun _ _ _ _ => ?_) (fun _ _ _ _ => ?_) | with_reducible refine pw_oI ?_ | with_reducible refine pw_some ?_ ?_ | with_reducible refine pw_inl ?_ ?_ | with_reducible exact pw_none | assumption
theorem pr_f_X11_ground {T L : Nat → Nat} {M : gMem} {x0 : Nat} {x1 : Int32} {x2 : Int32} (hT : mT M = T) (hL : mL M = L) : PW (QR T L) (f_X11_ground M x0 x1 x2) := by
  unfold f_X11_ground
  repeat' first | with_reducible refine pr_b_X11_ground_0 ?_ ?_ | with_reducible refine pw_ck ?_ | with_reducible refine pw_dr (fun _ => ?_) | with_reducible refine pw_if ?_ ?_ | with_reducible refine pw_lw ?_ | with_reducible refine pw_bd (T := T) (L := L) ?_ (fun _ _ _ _ => ?_) | with_reducible refine pw_bx (T := T) (L := L) ?_ (fun _ _ _ _ => ?_) (fun _ _ _ _ => ?_) | with_reducible refine pw_oI ?_ | with_reducible refine pw_some ?_ ?_ | with_reducible refine pw_inl ?_ ?_ | with_reducible exact pw_none | assumption
theorem pr_b_X11_fisher_124 {T L : Nat → Nat} {M : gMem} {s0 : Int32} (hT : mT M = T) (hL : mL M = L) : PW (QR T L) (b_X11_fisher_124 M s0) := by
  unfold b_X11_fisher_124
  repeat' first | with_reducible refine pw_ck ?_ | with_reducible refine pw_dr (fun _ => ?_) | with_reducible refine pw_if ?_ ?_ | with_reducible refine pw_lw ?_ | with_reducible refine pw_bd (T := T) (L := L) ?_ (fun _ _ _ _ => ?_) | with_reducible refine pw_bx (T := T) (L := L) ?_ (fun _ _ _ _ => ?_) (fun _ _ _ _ => ?_) | with_reducible refine pw_oI ?_ | with_reducible refine pw_some ?_ ?_ | with_reducible refine pw_inl ?_ ?_ | with_reducible exact pw_none | assumption
set_option maxRecDepth 100000 in
theorem pr_b_X11_fisher_0 {T L : Nat → Nat} {M : gMem} {x0 : Nat} {x1 : Int32} {x2 : Int32} (hT : mT M = T) (hL : mL M = L) : PW (QR T L) (b_X11_fisher_0 M x0 x1 x2) := by
  unfold b_X11_fisher_0
  repeat' first | with_reducible refine pr_f_X11_checkFisher ?_ ?_ | with_reducible refine pr_b_X11_fisher_124 ?_ ?_ | with_reducible refine pw_ck ?_ | with_reducible refine pw_dr (fun _ => ?_) | with_reducible refine pw_if ?_ ?_ | with_reducible refine pw_lw ?_ | with_reducible refine pw_bd (T := T) (L := L) ?_ (fun _ _ _ _ => ?_) | with_reducible refine pw_bx (T := T) (L := L) ?_ (fun _ _ _ _ => ?_) (fun _ _ _ _ => ?_) | with_reducible refine pw_oI ?_ | with_reducible refine pw_some ?_ ?_ | with_reducible refine pw_inl ?_ ?_ | with_reducible exact pw_none | assumption
theorem pr_f_X11_fisher {T L : Nat → Nat} {M : gMem} {x0 : Nat} {x1 : Int32} {x2 : Int32} (hT : mT M = T) (hL : mL M = L) : PW (QR T L) (f_X11_fisher M x0 x1 x2) := by
  unfold f_X11_fisher
  repeat' first | with_reducible refine pr_b_X11_fisher_0 ?_ ?_ | with_reducible refine pw_ck ?_ | with_reducible refine pw_dr (fun _ => ?_) | with_reducible refine pw_if ?_ ?_ | with_reducible refine pw_lw ?_ | with_reducible refine pw_bd (T := T) (L := L) ?_ (fun _ _ _ _ => ?_) | with_reducible refine pw_bx (T := T) (L := L) ?_ (fun _ _ _ _ => ?_) (fun _ _ _ _ => ?_) | with_reducible refine pw_oI ?_ | with_reducible refine pw_some ?_ ?_ | with_reducible refine pw_inl ?_ ?_ | with_reducible exact pw_none | assumption
theorem pr_b_X11_pact_92 {T L : Nat → Nat} {M : gMem} {s0 : Int32} (hT : mT M = T) (hL : mL M = L) : PW (QR T L) (b_X11_pact_92 M s0) := by
  unfold b_X11_pact_92
  repeat' first | with_reducible refine pw_ck ?_ | with_reducible refine pw_dr (fun _ => ?_) | with_reducible refine pw_if ?_ ?_ | with_reducible refine pw_lw ?_ | with_reducible refine pw_bd (T := T) (L := L) ?_ (fun _ _ _ _ => ?_) | with_reducible refine pw_bx (T := T) (L := L) ?_ (fun _ _ _ _ => ?_) (fun _ _ _ _ => ?_) | with_reducible refine pw_oI ?_ | with_reducible refine pw_some ?_ ?_ | with_reducible refine pw_inl ?_ ?_ | with_reducible exact pw_none | assumption
theorem pr_b_X11_pact_15 {T L : Nat → Nat} {M : gMem} (hT : mT M = T) (hL : mL M = L) : PW (QR T L) (b_X11_pact_15 M) := by
  unfold b_X11_pact_15
  repeat' first | with_reducible refine pw_ck ?_ | with_reducible refine pw_dr (fun _ => ?_) | with_reducible refine pw_if ?_ ?_ | with_reducible refine pw_lw ?_ | with_reducible refine pw_bd (T := T) (L := L) ?_ (fun _ _ _ _ => ?_) | with_reducible refine pw_bx (T := T) (L := L) ?_ (fun _ _ _ _ => ?_) (fun _ _ _ _ => ?_) | with_reducible refine pw_oI ?_ | with_reducible refine pw_some ?_ ?_ | with_reducible refine pw_inl ?_ ?_ | with_reducible exact pw_none | assumption
set_option maxRecDepth 100000 in
theorem pr_b_X11_pact_0 {T L : Nat → Nat} {M : gMem} {x0 : Nat} {x1 : Int32} {x2 : Int32} (hT : mT M = T) (hL : mL M = L) : PW (QR T L) (b_X11_pact_0 M x0 x1 x2) := by
  unfold b_X11_pact_0
  repeat' first | with_reducible refine pr_b_X11_pact_15 ?_ ?_ | with_reducible refine pr_f_X5_splits ?_ ?_ | with_reducible refine pr_b_X11_pact_92 ?_ ?_ | with_reducible refine pw_ck ?_ | with_reducible refine pw_dr (fun _ => ?_) | with_reducible refine pw_if ?_ ?_ | with_reducible refine pw_lw ?_ | with_reducible refine pw_bd (T := T) (L := L) ?_ (fun _ _ _ _ => ?_) | with_reducible refine pw_bx (T := T) (L := L) ?_ (fun _ _ _ _ => ?_) (fun _ _ _ _ => ?_) | with_reducible refine pw_oI ?_ | with_reducible refine pw_some ?_ ?_ | with_reducible refine pw_inl ?_ ?_ | with_reducible exact pw_none | assumption
theorem pr_f_X11_pact {T L : Nat → Nat} {M : gMem} {x0 : Nat} {x1 : Int32} {x2 : Int32} (hT : mT M = T) (hL : mL M = L) : PW (QR T L) (f_X11_pact M x0 x1 x2) := by
  unfold f_X11_pact
  repeat' first | with_reducible refine pr_b_X11_pact_0 ?_ ?_ | with_reducible refine pw_ck ?_ | with_reducible refine pw_dr (fun _ => ?_) | with_reducible refine pw_if ?_ ?_ | with_reducible refine pw_lw ?_ | with_reducible refine pw_bd (T := T) (L := L) ?_ (fun _ _ _ _ => ?_) | with_reducible refine pw_bx (T := T) (L := L) ?_ (fun _ _ _ _ => ?_) (fun _ _ _ _ => ?_) | with_reducible refine pw_oI ?_ | with_reducible refine pw_some ?_ ?_ | with_reducible refine pw_inl ?_ ?_ | with_reducible exact pw_none | assumption
theorem pr_b_X11_cheat_0 {T L : Nat → Nat} {M : gMem} {x0 : Nat} {x1 : Int32} {x2 : Int32} (hT : mT M = T) (hL : mL M = L) : PW (QR T L) (b_X11_cheat_0 M x0 x1 x2) := by
  unfold b_X11_cheat_0
  repeat' first | with_reducible refine pr_f_X11_checkFisher ?_ ?_ | with_reducible refine pr_f_X7_allCheats ?_ ?_ | with_reducible refine pw_ck ?_ | with_reducible refine pw_dr (fun _ => ?_) | with_reducible refine pw_if ?_ ?_ | with_reducible refine pw_lw ?_ | with_reducible refine pw_bd (T := T) (L := L) ?_ (fun _ _ _ _ => ?_) | with_reducible refine pw_bx (T := T) (L := L) ?_ (fun _ _ _ _ => ?_) (fun _ _ _ _ => ?_) | with_reducible refine pw_oI ?_ | with_reducible refine pw_some ?_ ?_ | with_reducible refine pw_inl ?_ ?_ | with_reducible exact pw_none | assumption
theorem pr_f_X11_cheat {T L : Nat → Nat} {M : gMem} {x0 : Nat} {x1 : Int32} {x2 : Int32} (hT : mT M = T) (hL : mL M = L) : PW (QR T L) (f_X11_cheat M x0 x1 x2) := by
  unfold f_X11_cheat
  repeat' first | with_reducible refine pr_b_X11_cheat_0 ?_ ?_ | with_reducible refine pw_ck ?_ | with_reducible refine pw_dr (fun _ => ?_) | with_reducible refine pw_if ?_ ?_ | with_reducible refine pw_lw ?_ | with_reducible refine pw_bd (T := T) (L := L) ?_ (fun _ _ _ _ => ?_) | with_reducible refine pw_bx (T := T) (L := L) ?_ (fun _ _ _ _ => ?_) (fun _ _ _ _ => ?_) | with_reducible refine pw_oI ?_ | with_reducible refine pw_some ?_ ?_ | with_reducible refine pw_inl ?_ ?_ | with_reducible exact pw_none | assumption
theorem pr_b_X11_lot_15 {T L : Nat → Nat} {M : gMem} (hT : mT M = T) (hL : mL M = L) : PW (QR T L) (b_X11_lot_15 M) := by
  unfold b_X11_lot_15
  repeat' first | with_reducible refine pw_ck ?_ | with_reducible refine pw_dr (fun _ => ?_) | with_reducible refine pw_if ?_ ?_ | with_reducible refine pw_lw ?_ | with_reducible refine pw_bd (T := T) (L := L) ?_ (fun _ _ _ _ => ?_) | with_reducible refine pw_bx (T := T) (L := L) ?_ (fun _ _ _ _ => ?_) (fun _ _ _ _ => ?_) | with_reducible refine pw_oI ?_ | with_reducible refine pw_some ?_ ?_ | with_reducible refine pw_inl ?_ ?_ | with_reducible exact pw_none | assumption
theorem pr_b_X11_lot_0 {T L : Nat → Nat} {M : gMem} {x0 : Nat} {x1 : Int32} (hT : mT M = T) (hL : mL M = L) : PW (QR T L) (b_X11_lot_0 M x0 x1) := by
  unfold b_X11_lot_0
  repeat' first | with_reducible refine pr_b_X11_lot_15 ?_ ?_ | with_reducible refine pr_f_X7_drawLots ?_ ?_ | with_reducible refine pw_ck ?_ | with_reducible refine pw_dr (fun _ => ?_) | with_reducible refine pw_if ?_ ?_ | with_reducible refine pw_lw ?_ | with_reducible refine pw_bd (T := T) (L := L) ?_ (fun _ _ _ _ => ?_) | with_reducible refine pw_bx (T := T) (L := L) ?_ (fun _ _ _ _ => ?_) (fun _ _ _ _ => ?_) | with_reducible refine pw_oI ?_ | with_reducible refine pw_some ?_ ?_ | with_reducible refine pw_inl ?_ ?_ | with_reducible exact pw_none | assumption
theorem pr_f_X11_lot {T L : Nat → Nat} {M : gMem} {x0 : Nat} {x1 : Int32} (hT : mT M = T) (hL : mL M = L) : PW (QR T L) (f_X11_lot M x0 x1) := by
  unfold f_X11_lot
  repeat' first | with_reducible refine pr_b_X11_lot_0 ?_ ?_ | with_reducible refine pw_ck ?_ | with_reducible refine pw_dr (fun _ => ?_) | with_reducible refine pw_if ?_ ?_ | with_reducible refine pw_lw ?_ | with_reducible refine pw_bd (T := T) (L := L) ?_ (fun _ _ _ _ => ?_) | with_reducible refine pw_bx (T := T) (L := L) ?_ (fun _ _ _ _ => ?_) (fun _ _ _ _ => ?_) | with_reducible refine pw_oI ?_ | with_reducible refine pw_some ?_ ?_ | with_reducible refine pw_inl ?_ ?_ | with_reducible exact pw_none | assumption
theorem pr_b_X11_took_0 {T L : Nat → Nat} {M : gMem} {x0 : Nat} {x1 : Int32} {x2 : Int32} (hT : mT M = T) (hL : mL M = L) : PW (QR T L) (b_X11_took_0 M x0 x1 x2) := by
  unfold b_X11_took_0
  repeat' first | with_reducible refine pr_f_X11_checkGround ?_ ?_ | with_reducible refine pr_f_X11_checkFisher ?_ ?_ | with_reducible refine pw_ck ?_ | with_reducible refine pw_dr (fun _ => ?_) | with_reducible refine pw_if ?_ ?_ | with_reducible refine pw_lw ?_ | with_reducible refine pw_bd (T := T) (L := L) ?_ (fun _ _ _ _ => ?_) | with_reducible refine pw_bx (T := T) (L := L) ?_ (fun _ _ _ _ => ?_) (fun _ _ _ _ => ?_) | with_reducible refine pw_oI ?_ | with_reducible refine pw_some ?_ ?_ | with_reducible refine pw_inl ?_ ?_ | with_reducible exact pw_none | assumption
theorem pr_f_X11_took {T L : Nat → Nat} {M : gMem} {x0 : Nat} {x1 : Int32} {x2 : Int32} (hT : mT M = T) (hL : mL M = L) : PW (QR T L) (f_X11_took M x0 x1 x2) := by
  unfold f_X11_took
  repeat' first | with_reducible refine pr_b_X11_took_0 ?_ ?_ | with_reducible refine pw_ck ?_ | with_reducible refine pw_dr (fun _ => ?_) | with_reducible refine pw_if ?_ ?_ | with_reducible refine pw_lw ?_ | with_reducible refine pw_bd (T := T) (L := L) ?_ (fun _ _ _ _ => ?_) | with_reducible refine pw_bx (T := T) (L := L) ?_ (fun _ _ _ _ => ?_) (fun _ _ _ _ => ?_) | with_reducible refine pw_oI ?_ | with_reducible refine pw_some ?_ ?_ | with_reducible refine pw_inl ?_ ?_ | with_reducible exact pw_none | assumption
theorem pr_b_X11_blame_53 {T L : Nat → Nat} {M : gMem} {x0 : Nat} {x1 : Int32} {x2 : Int32} {x3 : Int32} {x4 : Int32} (hT : mT M = T) (hL : mL M = L) : PW (QS T L (QR T L)) (b_X11_blame_53 M x0 x1 x2 x3 x4) := by
  unfold b_X11_blame_53
  repeat' first | with_reducible refine pw_ck ?_ | with_reducible refine pw_dr (fun _ => ?_) | with_reducible refine pw_if ?_ ?_ | with_reducible refine pw_lw ?_ | with_reducible refine pw_bd (T := T) (L := L) ?_ (fun _ _ _ _ => ?_) | with_reducible refine pw_bx (T := T) (L := L) ?_ (fun _ _ _ _ => ?_) (fun _ _ _ _ => ?_) | with_reducible refine pw_oI ?_ | with_reducible refine pw_some ?_ ?_ | with_reducible refine pw_inl ?_ ?_ | with_reducible exact pw_none | assumption
theorem pr_bb_X11_blame_12 {T L : Nat → Nat} {M : gMem} {x0 : Nat} {x1 : Int32} {x2 : Int32} {x3 : Int32} {x4 : Int32} (hT : mT M = T) (hL : mL M = L) : PW (QS T L (QR T L)) (bb_X11_blame_12 M x0 x1 x2 x3 x4) := by
  unfold bb_X11_blame_12
  repeat' first | with_reducible refine pr_b_X11_blame_53 ?_ ?_ | with_reducible refine pw_ck ?_ | with_reducible refine pw_dr (fun _ => ?_) | with_reducible refine pw_if ?_ ?_ | with_reducible refine pw_lw ?_ | with_reducible refine pw_bd (T := T) (L := L) ?_ (fun _ _ _ _ => ?_) | with_reducible refine pw_bx (T := T) (L := L) ?_ (fun _ _ _ _ => ?_) (fun _ _ _ _ => ?_) | with_reducible refine pw_oI ?_ | with_reducible refine pw_some ?_ ?_ | with_reducible refine pw_inl ?_ ?_ | with_reducible exact pw_none | assumption
theorem pr_lp_X11_blame_12 {T L : Nat → Nat} {M : gMem} {x0 : Nat} {x1 : Int32} {x2 : Int32} {x3 : Int32} {x4 : Int32} (hT : mT M = T) (hL : mL M = L) : PW (QR T L) (lp_X11_blame_12 M x0 x1 x2 x3 x4) := by
  unfold lp_X11_blame_12
  exact pw_lp hT hL (fun _ _ hT hL => pr_bb_X11_blame_12 hT hL)
theorem pr_b_X11_blame_0 {T L : Nat → Nat} {M : gMem} {x0 : Nat} {x1 : Int32} (hT : mT M = T) (hL : mL M = L) : PW (QR T L) (b_X11_blame_0 M x0 x1) := by
  unfold b_X11_blame_0
  repeat' first | with_reducible refine pr_f_X11_checkGround ?_ ?_ | with_reducible refine pr_lp_X11_blame_12 ?_ ?_ | with_reducible refine pw_ck ?_ | with_reducible refine pw_dr (fun _ => ?_) | with_reducible refine pw_if ?_ ?_ | with_reducible refine pw_lw ?_ | with_reducible refine pw_bd (T := T) (L := L) ?_ (fun _ _ _ _ => ?_) | with_reducible refine pw_bx (T := T) (L := L) ?_ (fun _ _ _ _ => ?_) (fun _ _ _ _ => ?_) | with_reducible refine pw_oI ?_ | with_reducible refine pw_some ?_ ?_ | with_reducible refine pw_inl ?_ ?_ | with_reducible exact pw_none | assumption
theorem pr_f_X11_blame {T L : Nat → Nat} {M : gMem} {x0 : Nat} {x1 : Int32} (hT : mT M = T) (hL : mL M = L) : PW (QR T L) (f_X11_blame M x0 x1) := by
  unfold f_X11_blame
  repeat' first | with_reducible refine pr_b_X11_blame_0 ?_ ?_ | with_reducible refine pw_ck ?_ | with_reducible refine pw_dr (fun _ => ?_) | with_reducible refine pw_if ?_ ?_ | with_reducible refine pw_lw ?_ | with_reducible refine pw_bd (T := T) (L := L) ?_ (fun _ _ _ _ => ?_) | with_reducible refine pw_bx (T := T) (L := L) ?_ (fun _ _ _ _ => ?_) (fun _ _ _ _ => ?_) | with_reducible refine pw_oI ?_ | with_reducible refine pw_some ?_ ?_ | with_reducible refine pw_inl ?_ ?_ | with_reducible exact pw_none | assumption
theorem pr_b_X11_pass_0 {T L : Nat → Nat} {Z : Nat → Nat} {M : gMem} {x0 : Nat} {x1 : Int32} (hT : mT M = T) (hL : mL M = L) : PW (QR T L) (b_X11_pass_0 Z M x0 x1) := by
  unfold b_X11_pass_0
  repeat' first | with_reducible refine pr_f_X11_checkTides ?_ ?_ | with_reducible refine pr_f_X7_passTides ?_ ?_ | with_reducible refine pw_ck ?_ | with_reducible refine pw_dr (fun _ => ?_) | with_reducible refine pw_if ?_ ?_ | with_reducible refine pw_lw ?_ | with_reducible refine pw_bd (T := T) (L := L) ?_ (fun _ _ _ _ => ?_) | with_reducible refine pw_bx (T := T) (L := L) ?_ (fun _ _ _ _ => ?_) (fun _ _ _ _ => ?_) | with_reducible refine pw_oI ?_ | with_reducible refine pw_some ?_ ?_ | with_reducible refine pw_inl ?_ ?_ | with_reducible exact pw_none | assumption
theorem pr_f_X11_pass {T L : Nat → Nat} {Z : Nat → Nat} {M : gMem} {x0 : Nat} {x1 : Int32} (hT : mT M = T) (hL : mL M = L) : PW (QR T L) (f_X11_pass Z M x0 x1) := by
  unfold f_X11_pass
  repeat' first | with_reducible refine pr_b_X11_pass_0 ?_ ?_ | with_reducible refine pw_ck ?_ | with_reducible refine pw_dr (fun _ => ?_) | with_reducible refine pw_if ?_ ?_ | with_reducible refine pw_lw ?_ | with_reducible refine pw_bd (T := T) (L := L) ?_ (fun _ _ _ _ => ?_) | with_reducible refine pw_bx (T := T) (L := L) ?_ (fun _ _ _ _ => ?_) (fun _ _ _ _ => ?_) | with_reducible refine pw_oI ?_ | with_reducible refine pw_some ?_ ?_ | with_reducible refine pw_inl ?_ ?_ | with_reducible exact pw_none | assumption
theorem pr_b_X11_foresee_15 {T L : Nat → Nat} {Z : Nat → Nat} {M : gMem} (hT : mT M = T) (hL : mL M = L) : PW (QR T L) (b_X11_foresee_15 Z M) := by
  unfold b_X11_foresee_15
  repeat' first | with_reducible refine pw_ck ?_ | with_reducible refine pw_dr (fun _ => ?_) | with_reducible refine pw_if ?_ ?_ | with_reducible refine pw_lw ?_ | with_reducible refine pw_bd (T := T) (L := L) ?_ (fun _ _ _ _ => ?_) | with_reducible refine pw_bx (T := T) (L := L) ?_ (fun _ _ _ _ => ?_) (fun _ _ _ _ => ?_) | with_reducible refine pw_oI ?_ | with_reducible refine pw_some ?_ ?_ | with_reducible refine pw_inl ?_ ?_ | with_reducible exact pw_none | assumption
theorem pr_b_X11_foresee_0 {T L : Nat → Nat} {Z : Nat → Nat} {M : gMem} {x0 : Nat} {x1 : Int32} {x2 : Int32} (hT : mT M = T) (hL : mL M = L) : PW (QR T L) (b_X11_foresee_0 Z M x0 x1 x2) := by
  unfold b_X11_foresee_0
  repeat' first | with_reducible refine pr_f_X11_checkTides ?_ ?_ | with_reducible refine pr_b_X11_foresee_15 ?_ ?_ | with_reducible refine pr_f_X11_lookAhead ?_ ?_ | with_reducible refine pr_f_X7_passTides ?_ ?_ | with_reducible refine pr_f_X7_allStores ?_ ?_ | with_reducible refine pr_f_X7_allFish ?_ ?_ | with_reducible refine pr_f_X7_storeGap ?_ ?_ | with_reducible refine pw_ck ?_ | with_reducible refine pw_dr (fun _ => ?_) | with_reducible refine pw_if ?_ ?_ | with_reducible refine pw_lw ?_ | with_reducible refine pw_bd (T := T) (L := L) ?_ (fun _ _ _ _ => ?_) | with_reducible refine pw_bx (T := T) (L := L) ?_ (fun _ _ _ _ => ?_) (fun _ _ _ _ => ?_) | with_reducible refine pw_oI ?_ | with_reducible refine pw_some ?_ ?_ | with_reducible refine pw_inl ?_ ?_ | with_reducible exact pw_none | assumption
theorem pr_f_X11_foresee {T L : Nat → Nat} {Z : Nat → Nat} {M : gMem} {x0 : Nat} {x1 : Int32} {x2 : Int32} (hT : mT M = T) (hL : mL M = L) : PW (QR T L) (f_X11_foresee Z M x0 x1 x2) := by
  unfold f_X11_foresee
  repeat' first | with_reducible refine pr_b_X11_foresee_0 ?_ ?_ | with_reducible refine pw_ck ?_ | with_reducible refine pw_dr (fun _ => ?_) | with_reducible refine pw_if ?_ ?_ | with_reducible refine pw_lw ?_ | with_reducible refine pw_bd (T := T) (L := L) ?_ (fun _ _ _ _ => ?_) | with_reducible refine pw_bx (T := T) (L := L) ?_ (fun _ _ _ _ => ?_) (fun _ _ _ _ => ?_) | with_reducible refine pw_oI ?_ | with_reducible refine pw_some ?_ ?_ | with_reducible refine pw_inl ?_ ?_ | with_reducible exact pw_none | assumption
set_option maxRecDepth 100000 in
theorem pr_b_X11_pays_0 {T L : Nat → Nat} {Z : Nat → Nat} {M : gMem} {x0 : Nat} {x1 : Int32} {x2 : Int32} (hT : mT M = T) (hL : mL M = L) : PW (QR T L) (b_X11_pays_0 Z M x0 x1 x2) := by
  unfold b_X11_pays_0
  repeat' first | with_reducible refine pr_f_X11_checkFisher ?_ ?_ | with_reducible refine pr_f_X11_checkTides ?_ ?_ | with_reducible refine pr_f_X11_lookAhead ?_ ?_ | with_reducible refine pr_f_X7_passTides ?_ ?_ | with_reducible refine pw_ck ?_ | with_reducible refine pw_dr (fun _ => ?_) | with_reducible refine pw_if ?_ ?_ | with_reducible refine pw_lw ?_ | with_reducible refine pw_bd (T := T) (L := L) ?_ (fun _ _ _ _ => ?_) | with_reducible refine pw_bx (T := T) (L := L) ?_ (fun _ _ _ _ => ?_) (fun _ _ _ _ => ?_) | with_reducible refine pw_oI ?_ | with_reducible refine pw_some ?_ ?_ | with_reducible refine pw_inl ?_ ?_ | with_reducible exact pw_none | assumption
theorem pr_f_X11_pays {T L : Nat → Nat} {Z : Nat → Nat} {M : gMem} {x0 : Nat} {x1 : Int32} {x2 : Int32} (hT : mT M = T) (hL : mL M = L) : PW (QR T L) (f_X11_pays Z M x0 x1 x2) := by
  unfold f_X11_pays
  repeat' first | with_reducible refine pr_b_X11_pays_0 ?_ ?_ | with_reducible refine pw_ck ?_ | with_reducible refine pw_dr (fun _ => ?_) | with_reducible refine pw_if ?_ ?_ | with_reducible refine pw_lw ?_ | with_reducible refine pw_bd (T := T) (L := L) ?_ (fun _ _ _ _ => ?_) | with_reducible refine pw_bx (T := T) (L := L) ?_ (fun _ _ _ _ => ?_) (fun _ _ _ _ => ?_) | with_reducible refine pw_oI ?_ | with_reducible refine pw_some ?_ ?_ | with_reducible refine pw_inl ?_ ?_ | with_reducible exact pw_none | assumption
theorem pr_b_X11_empty_28 {T L : Nat → Nat} {Z : Nat → Nat} {M : gMem} {x1 : Int32} {x2 : Option Nat} {x3 : Int32} (hT : mT M = T) (hL : mL M = L) : PW (QS T L (QR T L)) (b_X11_empty_28 Z M x1 x2 x3) := by
  unfold b_X11_empty_28
  repeat' first | with_reducible refine pr_f_X3_allFish ?_ ?_ | with_reducible refine pw_ck ?_ | with_reducible refine pw_dr (fun _ => ?_) | with_reducible refine pw_if ?_ ?_ | with_reducible refine pw_lw ?_ | with_reducible refine pw_bd (T := T) (L := L) ?_ (fun _ _ _ _ => ?_) | with_reducible refine pw_bx (T := T) (L := L) ?_ (fun _ _ _ _ => ?_) (fun _ _ _ _ => ?_) | with_reducible refine pw_oI ?_ | with_reducible refine pw_some ?_ ?_ | with_reducible refine pw_inl ?_ ?_ | with_reducible exact pw_none | assumption
theorem pr_bb_X11_empty_12 {T L : Nat → Nat} {Z : Nat → Nat} {M : gMem} {x1 : Int32} {x2 : Option Nat} {x3 : Int32} (hT : mT M = T) (hL : mL M = L) : PW (QS T L (QR T L)) (bb_X11_empty_12 Z M x1 x2 x3) := by
  unfold bb_X11_empty_12
  repeat' first | with_reducible refine pr_b_X11_empty_28 ?_ ?_ | with_reducible refine pr_f_X7_passTides ?_ ?_ | with_reducible refine pw_ck ?_ | with_reducible refine pw_dr (fun _ => ?_) | with_reducible refine pw_if ?_ ?_ | with_reducible refine pw_lw ?_ | with_reducible refine pw_bd (T := T) (L := L) ?_ (fun _ _ _ _ => ?_) | with_reducible refine pw_bx (T := T) (L := L) ?_ (fun _ _ _ _ => ?_) (fun _ _ _ _ => ?_) | with_reducible refine pw_oI ?_ | with_reducible refine pw_some ?_ ?_ | with_reducible refine pw_inl ?_ ?_ | with_reducible exact pw_none | assumption
theorem pr_lp_X11_empty_12 {T L : Nat → Nat} {Z : Nat → Nat} {M : gMem} {x1 : Int32} {x2 : Option Nat} {x3 : Int32} (hT : mT M = T) (hL : mL M = L) : PW (QR T L) (lp_X11_empty_12 Z M x1 x2 x3) := by
  unfold lp_X11_empty_12
  exact pw_lp hT hL (fun _ _ hT hL => pr_bb_X11_empty_12 hT hL)
theorem pr_b_X11_empty_0 {T L : Nat → Nat} {Z : Nat → Nat} {M : gMem} {x0 : Nat} {x1 : Int32} (hT : mT M = T) (hL : mL M = L) : PW (QR T L) (b_X11_empty_0 Z M x0 x1) := by
  unfold b_X11_empty_0
  repeat' first | with_reducible refine pr_f_X11_checkGround ?_ ?_ | with_reducible refine pr_f_X11_lookAhead ?_ ?_ | with_reducible refine pr_lp_X11_empty_12 ?_ ?_ | with_reducible refine pw_ck ?_ | with_reducible refine pw_dr (fun _ => ?_) | with_reducible refine pw_if ?_ ?_ | with_reducible refine pw_lw ?_ | with_reducible refine pw_bd (T := T) (L := L) ?_ (fun _ _ _ _ => ?_) | with_reducible refine pw_bx (T := T) (L := L) ?_ (fun _ _ _ _ => ?_) (fun _ _ _ _ => ?_) | with_reducible refine pw_oI ?_ | with_reducible refine pw_some ?_ ?_ | with_reducible refine pw_inl ?_ ?_ | with_reducible exact pw_none | assumption
theorem pr_f_X11_empty {T L : Nat → Nat} {Z : Nat → Nat} {M : gMem} {x0 : Nat} {x1 : Int32} (hT : mT M = T) (hL : mL M = L) : PW (QR T L) (f_X11_empty Z M x0 x1) := by
  unfold f_X11_empty
  repeat' first | with_reducible refine pr_b_X11_empty_0 ?_ ?_ | with_reducible refine pw_ck ?_ | with_reducible refine pw_dr (fun _ => ?_) | with_reducible refine pw_if ?_ ?_ | with_reducible refine pw_lw ?_ | with_reducible refine pw_bd (T := T) (L := L) ?_ (fun _ _ _ _ => ?_) | with_reducible refine pw_bx (T := T) (L := L) ?_ (fun _ _ _ _ => ?_) (fun _ _ _ _ => ?_) | with_reducible refine pw_oI ?_ | with_reducible refine pw_some ?_ ?_ | with_reducible refine pw_inl ?_ ?_ | with_reducible exact pw_none | assumption
theorem pr_b_X11_advise_80 {T L : Nat → Nat} {Z : Nat → Nat} {M : gMem} {x0 : Nat} {x1 : Int32} {x2 : Int32} {x3 : Int32} {x4 : Int32} {x5 : Int32} (hT : mT M = T) (hL : mL M = L) : PW (QS T L (QR T L)) (b_X11_advise_80 Z M x0 x1 x2 x3 x4 x5) := by
  unfold b_X11_advise_80
  repeat' first | with_reducible refine pw_ck ?_ | with_reducible refine pw_dr (fun _ => ?_) | with_reducible refine pw_if ?_ ?_ | with_reducible refine pw_lw ?_ | with_reducible refine pw_bd (T := T) (L := L) ?_ (fun _ _ _ _ => ?_) | with_reducible refine pw_bx (T := T) (L := L) ?_ (fun _ _ _ _ => ?_) (fun _ _ _ _ => ?_) | with_reducible refine pw_oI ?_ | with_reducible refine pw_some ?_ ?_ | with_reducible refine pw_inl ?_ ?_ | with_reducible exact pw_none | assumption
theorem pr_bb_X11_advise_19 {T L : Nat → Nat} {Z : Nat → Nat} {M : gMem} {x0 : Nat} {x1 : Int32} {x2 : Int32} {x3 : Int32} {x4 : Int32} {x5 : Int32} (hT : mT M = T) (hL : mL M = L) : PW (QS T L (QR T L)) (bb_X11_advise_19 Z M x0 x1 x2 x3 x4 x5) := by
  unfold bb_X11_advise_19
  repeat' first | with_reducible refine pr_f_X11_lookAhead ?_ ?_ | with_reducible refine pr_f_X7_passTides ?_ ?_ | with_reducible refine pr_b_X11_advise_80 ?_ ?_ | with_reducible refine pw_ck ?_ | with_reducible refine pw_dr (fun _ => ?_) | with_reducible refine pw_if ?_ ?_ | with_reducible refine pw_lw ?_ | with_reducible refine pw_bd (T := T) (L := L) ?_ (fun _ _ _ _ => ?_) | with_reducible refine pw_bx (T := T) (L := L) ?_ (fun _ _ _ _ => ?_) (fun _ _ _ _ => ?_) | with_reducible refine pw_oI ?_ | with_reducible refine pw_some ?_ ?_ | with_reducible refine pw_inl ?_ ?_ | with_reducible exact pw_none | assumption
theorem pr_lp_X11_advise_19 {T L : Nat → Nat} {Z : Nat → Nat} {M : gMem} {x0 : Nat} {x1 : Int32} {x2 : Int32} {x3 : Int32} {x4 : Int32} {x5 : Int32} (hT : mT M = T) (hL : mL M = L) : PW (QR T L) (lp_X11_advise_19 Z M x0 x1 x2 x3 x4 x5) := by
  unfold lp_X11_advise_19
  exact pw_lp hT hL (fun _ _ hT hL => pr_bb_X11_advise_19 hT hL)
theorem pr_b_X11_advise_0 {T L : Nat → Nat} {Z : Nat → Nat} {M : gMem} {x0 : Nat} {x1 : Int32} {x2 : Int32} (hT : mT M = T) (hL : mL M = L) : PW (QR T L) (b_X11_advise_0 Z M x0 x1 x2) := by
  unfold b_X11_advise_0
  repeat' first | with_reducible refine pr_f_X11_checkFisher ?_ ?_ | with_reducible refine pr_f_X11_checkTides ?_ ?_ | with_reducible refine pr_lp_X11_advise_19 ?_ ?_ | with_reducible refine pw_ck ?_ | with_reducible refine pw_dr (fun _ => ?_) | with_reducible refine pw_if ?_ ?_ | with_reducible refine pw_lw ?_ | with_reducible refine pw_bd (T := T) (L := L) ?_ (fun _ _ _ _ => ?_) | with_reducible refine pw_bx (T := T) (L := L) ?_ (fun _ _ _ _ => ?_) (fun _ _ _ _ => ?_) | with_reducible refine pw_oI ?_ | with_reducible refine pw_some ?_ ?_ | with_reducible refine pw_inl ?_ ?_ | with_reducible exact pw_none | assumption
theorem pr_f_X11_advise {T L : Nat → Nat} {Z : Nat → Nat} {M : gMem} {x0 : Nat} {x1 : Int32} {x2 : Int32} (hT : mT M = T) (hL : mL M = L) : PW (QR T L) (f_X11_advise Z M x0 x1 x2) := by
  unfold f_X11_advise
  repeat' first | with_reducible refine pr_b_X11_advise_0 ?_ ?_ | with_reducible refine pw_ck ?_ | with_reducible refine pw_dr (fun _ => ?_) | with_reducible refine pw_if ?_ ?_ | with_reducible refine pw_lw ?_ | with_reducible refine pw_bd (T := T) (L := L) ?_ (fun _ _ _ _ => ?_) | with_reducible refine pw_bx (T := T) (L := L) ?_ (fun _ _ _ _ => ?_) (fun _ _ _ _ => ?_) | with_reducible refine pw_oI ?_ | with_reducible refine pw_some ?_ ?_ | with_reducible refine pw_inl ?_ ?_ | with_reducible exact pw_none | assumption

