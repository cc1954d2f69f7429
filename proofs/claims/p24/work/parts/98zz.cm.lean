/-! ## Pure: what the class does doesn't see longs, nor how many cells there are (written by gen98zz.py) -/
def ad (J : Nat → Nat → Int64) (N : Nat) (M : gMem) : gMem := (mT M, mL M, mI M, mR M, J, N)
theorem ad_T {J : Nat → Nat → Int64} {N : Nat} {M : gMem} : mT (ad J N M) = mT M := rfl
theorem ad_L {J : Nat → Nat → Int64} {N : Nat} {M : gMem} : mL (ad J N M) = mL M := rfl
theorem ad_I {J : Nat → Nat → Int64} {N : Nat} {M : gMem} : mI (ad J N M) = mI M := rfl
theorem ad_R {J : Nat → Nat → Int64} {N : Nat} {M : gMem} : mR (ad J N M) = mR M := rfl
theorem ad_wI {J : Nat → Nat → Int64} {N a k : Nat} {v : Int32} {M : gMem} : wI (ad J N M) a k v = ad J N (wI M a k v) := rfl
theorem ad_wR {J : Nat → Nat → Int64} {N a k : Nat} {v : Option Nat} {M : gMem} : wR (ad J N M) a k v = ad J N (wR M a k v) := rfl
theorem ad_cp {J : Nat → Nat → Int64} {N a i b j n : Nat} {M : gMem} : cpI (ad J N M) a i b j n = ad J N (cpI M a i b j n) := rfl
def ad0 {α : Type} (J : Nat → Nat → Int64) (N : Nat) (q : α × gMem) : α × gMem := (q.1, ad J N q.2)
def adS {α : Type} (J : Nat → Nat → Int64) (N : Nat) (q : gMem × α) : gMem × α := (ad J N q.1, q.2)
theorem ad0_e {α : Type} {J : Nat → Nat → Int64} {N : Nat} {x : α} {M : gMem} : ad0 J N (x, M) = (x, ad J N M) := rfl
theorem adS_e {α : Type} {J : Nat → Nat → Int64} {N : Nat} {x : α} {M : gMem} : adS J N (M, x) = (ad J N M, x) := rfl
theorem om_ck {α β : Type} {g : α → β} {c : Prop} [Decidable c] {o : Option α} : Option.map g (ck c o) = ck c (Option.map g o) := by
  unfold ck
  by_cases h : c
  · rw [if_pos h, if_pos h]
  · rw [if_neg h, if_neg h]; rfl
theorem om_dr {α β : Type} {g : α → β} {r : Option Nat} {k : Nat → Option α} : Option.map g (dr r k) = dr r (fun a => Option.map g (k a)) := by
  cases r <;> rfl
theorem om_bd {α β γ : Type} {g : β → γ} {o : Option (α × gMem)} {k : α → gMem → Option β} : Option.map g (bd o k) = bd o (fun x M => Option.map g (k x M)) := by
  match o with
  | none => rfl
  | some (x, M) => rfl
theorem om_bx {α β γ : Type} {g : β → γ} {o : Option ((Nat ⊕ α) × gMem)} {kt : Nat → gMem → Option β} {kr : α → gMem → Option β} : Option.map g (bx o kt kr) = bx o (fun e M => Option.map g (kt e M)) (fun x M => Option.map g (kr x M)) := by
  match o with
  | none => rfl
  | some (.inl x, M) => rfl
  | some (.inr x, M) => rfl
theorem om_if {α β : Type} {g : α → β} {c : Prop} [Decidable c] {a b : Option α} : Option.map g (if c then a else b) = if c then Option.map g a else Option.map g b := by
  by_cases h : c
  · rw [if_pos h, if_pos h]
  · rw [if_neg h, if_neg h]
theorem om_oI {α β γ δ : Type} {f : α → γ} {g : β → δ} {o : Option β} : Option.map (Sum.map f g) (oI o) = oI (Option.map g o) := by
  cases o <;> rfl
theorem bd_om {α β : Type} {J : Nat → Nat → Int64} {N : Nat} {o : Option (α × gMem)} {k : α → gMem → Option β} : bd (Option.map (ad0 J N) o) k = bd o (fun x M => k x (ad J N M)) := by
  match o with
  | none => rfl
  | some (x, M) => rfl
theorem bx_om {α β : Type} {J : Nat → Nat → Int64} {N : Nat} {o : Option ((Nat ⊕ α) × gMem)} {kt : Nat → gMem → Option β} {kr : α → gMem → Option β} : bx (Option.map (ad0 J N) o) kt kr = bx o (fun e M => kt e (ad J N M)) (fun x M => kr x (ad J N M)) := by
  match o with
  | none => rfl
  | some (.inl x, M) => rfl
  | some (.inr x, M) => rfl
theorem lpN_om {α β : Type} {f : α → Option (α ⊕ β)} {φ : α → α} {ψ : β → β} (h : ∀ a, f (φ a) = Option.map (Sum.map φ ψ) (f a)) : ∀ n a, lpN f n (φ a) = Option.map ψ (lpN f n a)
  | 0, _ => rfl
  | n + 1, a => by
    show (match f (φ a) with | none => none | some (.inr b) => some b | some (.inl a') => lpN f n a') = Option.map ψ (match f a with | none => none | some (.inr b) => some b | some (.inl a') => lpN f n a')
    rw [h a]
    match f a with
    | none => rfl
    | some (.inr b) => rfl
    | some (.inl a') => exact lpN_om h n a'
theorem lp_om {α β : Type} {f : α → Option (α ⊕ β)} {φ : α → α} {ψ : β → β} (h : ∀ a, f (φ a) = Option.map (Sum.map φ ψ) (f a)) (hφ : ∀ a b, ψ a = ψ b → ∃ c, ψ c = ψ a) (a : α) : lp f (φ a) = Option.map ψ (lp f a) := by
  cases e : lp f a with
  | some b =>
    obtain ⟨n, hn⟩ := lp_iff.mp e
    exact lp_iff.mpr ⟨n, by rw [lpN_om h, hn]; rfl⟩
  | none =>
    cases e2 : lp f (φ a) with
    | none => rfl
    | some b =>
      obtain ⟨n, hn⟩ := lp_iff.mp e2
      rw [lpN_om h] at hn
      cases e3 : lpN f n a with
      | none => rw [e3] at hn; cases hn
      | some b' =>
        have z : lp f a = some b' := lp_iff.mpr ⟨n, e3⟩
        rw [e] at z
        cases z
theorem cm_bb_X3_allFish_4 {J : Nat → Nat → Int64} {N : Nat} {M : gMem} {x0 : Nat} {x1 : Int32} {x2 : Int32} : bb_X3_allFish_4 (ad J N M) x0 x1 x2 = Option.map (Sum.map (adS J N) (ad0 J N)) (bb_X3_allFish_4 M x0 x1 x2) := by
  unfold bb_X3_allFish_4
  (simp only [ad_T, ad_L, ad_I, ad_R, ad_wI, ad_wR, ad_cp, om_ck, om_dr, om_bd, om_bx, om_if, om_oI, bd_om, bx_om, lw_S, Option.map_some, Option.map_none, Sum.map_inl, Sum.map_inr, ad0_e, adS_e]) <;> rfl
theorem cm_lp_X3_allFish_4 {J : Nat → Nat → Int64} {N : Nat} {M : gMem} {x0 : Nat} {x1 : Int32} {x2 : Int32} : lp_X3_allFish_4 (ad J N M) x0 x1 x2 = Option.map (ad0 J N) (lp_X3_allFish_4 M x0 x1 x2) := lp_om (φ := adS J N) (ψ := (ad0 J N)) (fun q => cm_bb_X3_allFish_4) (fun a _ _ => ⟨a, rfl⟩) (M, x1, x2)
theorem cm_b_X3_allFish_0 {J : Nat → Nat → Int64} {N : Nat} {M : gMem} {x0 : Nat} : b_X3_allFish_0 (ad J N M) x0 = Option.map (ad0 J N) (b_X3_allFish_0 M x0) := by
  unfold b_X3_allFish_0
  (simp only [ad_T, ad_L, ad_I, ad_R, ad_wI, ad_wR, ad_cp, om_ck, om_dr, om_bd, om_bx, om_if, om_oI, bd_om, bx_om, lw_S, Option.map_some, Option.map_none, Sum.map_inl, Sum.map_inr, ad0_e, adS_e, cm_lp_X3_allFish_4]) <;> rfl
theorem cm_f_X3_allFish {J : Nat → Nat → Int64} {N : Nat} {M : gMem} {x0 : Nat} : f_X3_allFish (ad J N M) x0 = Option.map (ad0 J N) (f_X3_allFish M x0) := by
  unfold f_X3_allFish
  (simp only [ad_T, ad_L, ad_I, ad_R, ad_wI, ad_wR, ad_cp, om_ck, om_dr, om_bd, om_bx, om_if, om_oI, bd_om, bx_om, lw_S, Option.map_some, Option.map_none, Sum.map_inl, Sum.map_inr, ad0_e, adS_e, cm_b_X3_allFish_0]) <;> rfl
theorem cm_bb_X3_grow_2 {J : Nat → Nat → Int64} {N : Nat} {M : gMem} {x0 : Nat} {x1 : Int32} : bb_X3_grow_2 (ad J N M) x0 x1 = Option.map (Sum.map (adS J N) (ad0 J N)) (bb_X3_grow_2 M x0 x1) := by
  unfold bb_X3_grow_2
  (simp only [ad_T, ad_L, ad_I, ad_R, ad_wI, ad_wR, ad_cp, om_ck, om_dr, om_bd, om_bx, om_if, om_oI, bd_om, bx_om, lw_S, Option.map_some, Option.map_none, Sum.map_inl, Sum.map_inr, ad0_e, adS_e, cm_f_X3_allFish]) <;> rfl
theorem cm_lp_X3_grow_2 {J : Nat → Nat → Int64} {N : Nat} {M : gMem} {x0 : Nat} {x1 : Int32} : lp_X3_grow_2 (ad J N M) x0 x1 = Option.map (ad0 J N) (lp_X3_grow_2 M x0 x1) := lp_om (φ := adS J N) (ψ := (ad0 J N)) (fun q => cm_bb_X3_grow_2) (fun a _ _ => ⟨a, rfl⟩) (M, x1)
theorem cm_b_X3_grow_0 {J : Nat → Nat → Int64} {N : Nat} {M : gMem} {x0 : Nat} : b_X3_grow_0 (ad J N M) x0 = Option.map (ad0 J N) (b_X3_grow_0 M x0) := by
  unfold b_X3_grow_0
  (simp only [ad_T, ad_L, ad_I, ad_R, ad_wI, ad_wR, ad_cp, om_ck, om_dr, om_bd, om_bx, om_if, om_oI, bd_om, bx_om, lw_S, Option.map_some, Option.map_none, Sum.map_inl, Sum.map_inr, ad0_e, adS_e, cm_lp_X3_grow_2]) <;> rfl
theorem cm_f_X3_grow {J : Nat → Nat → Int64} {N : Nat} {M : gMem} {x0 : Nat} : f_X3_grow (ad J N M) x0 = Option.map (ad0 J N) (f_X3_grow M x0) := by
  unfold f_X3_grow
  (simp only [ad_T, ad_L, ad_I, ad_R, ad_wI, ad_wR, ad_cp, om_ck, om_dr, om_bd, om_bx, om_if, om_oI, bd_om, bx_om, lw_S, Option.map_some, Option.map_none, Sum.map_inl, Sum.map_inr, ad0_e, adS_e, cm_b_X3_grow_0]) <;> rfl
theorem cm_bb_X3_copyFrom_26 {J : Nat → Nat → Int64} {N : Nat} {M : gMem} {x0 : Nat} {x1 : Option Nat} {x2 : Int32} : bb_X3_copyFrom_26 (ad J N M) x0 x1 x2 = Option.map (Sum.map (adS J N) (ad0 J N)) (bb_X3_copyFrom_26 M x0 x1 x2) := by
  unfold bb_X3_copyFrom_26
  (simp only [ad_T, ad_L, ad_I, ad_R, ad_wI, ad_wR, ad_cp, om_ck, om_dr, om_bd, om_bx, om_if, om_oI, bd_om, bx_om, lw_S, Option.map_some, Option.map_none, Sum.map_inl, Sum.map_inr, ad0_e, adS_e]) <;> rfl
theorem cm_lp_X3_copyFrom_26 {J : Nat → Nat → Int64} {N : Nat} {M : gMem} {x0 : Nat} {x1 : Option Nat} {x2 : Int32} : lp_X3_copyFrom_26 (ad J N M) x0 x1 x2 = Option.map (ad0 J N) (lp_X3_copyFrom_26 M x0 x1 x2) := lp_om (φ := adS J N) (ψ := (ad0 J N)) (fun q => cm_bb_X3_copyFrom_26) (fun a _ _ => ⟨a, rfl⟩) (M, x2)
theorem cm_b_X3_copyFrom_0 {J : Nat → Nat → Int64} {N : Nat} {M : gMem} {x0 : Nat} {x1 : Option Nat} : b_X3_copyFrom_0 (ad J N M) x0 x1 = Option.map (ad0 J N) (b_X3_copyFrom_0 M x0 x1) := by
  unfold b_X3_copyFrom_0
  (simp only [ad_T, ad_L, ad_I, ad_R, ad_wI, ad_wR, ad_cp, om_ck, om_dr, om_bd, om_bx, om_if, om_oI, bd_om, bx_om, lw_S, Option.map_some, Option.map_none, Sum.map_inl, Sum.map_inr, ad0_e, adS_e, cm_lp_X3_copyFrom_26]) <;> rfl
theorem cm_f_X3_copyFrom {J : Nat → Nat → Int64} {N : Nat} {M : gMem} {x0 : Nat} {x1 : Option Nat} : f_X3_copyFrom (ad J N M) x0 x1 = Option.map (ad0 J N) (f_X3_copyFrom M x0 x1) := by
  unfold f_X3_copyFrom
  (simp only [ad_T, ad_L, ad_I, ad_R, ad_wI, ad_wR, ad_cp, om_ck, om_dr, om_bd, om_bx, om_if, om_oI, bd_om, bx_om, lw_S, Option.map_some, Option.map_none, Sum.map_inl, Sum.map_inr, ad0_e, adS_e, cm_b_X3_copyFrom_0]) <;> rfl
theorem cm_b_X1_tear_0 {J : Nat → Nat → Int64} {N : Nat} {M : gMem} {x0 : Nat} : b_X1_tear_0 (ad J N M) x0 = Option.map (ad0 J N) (b_X1_tear_0 M x0) := by
  unfold b_X1_tear_0
  (simp only [ad_T, ad_L, ad_I, ad_R, ad_wI, ad_wR, ad_cp, om_ck, om_dr, om_bd, om_bx, om_if, om_oI, bd_om, bx_om, lw_S, Option.map_some, Option.map_none, Sum.map_inl, Sum.map_inr, ad0_e, adS_e]) <;> rfl
theorem cm_f_X1_tear {J : Nat → Nat → Int64} {N : Nat} {M : gMem} {x0 : Nat} : f_X1_tear (ad J N M) x0 = Option.map (ad0 J N) (f_X1_tear M x0) := by
  unfold f_X1_tear
  (simp only [ad_T, ad_L, ad_I, ad_R, ad_wI, ad_wR, ad_cp, om_ck, om_dr, om_bd, om_bx, om_if, om_oI, bd_om, bx_om, lw_S, Option.map_some, Option.map_none, Sum.map_inl, Sum.map_inr, ad0_e, adS_e, cm_b_X1_tear_0]) <;> rfl
theorem cm_bb_X1_copyFrom_82 {J : Nat → Nat → Int64} {N : Nat} {M : gMem} {x0 : Nat} {x1 : Option Nat} {x2 : Int32} : bb_X1_copyFrom_82 (ad J N M) x0 x1 x2 = Option.map (Sum.map (adS J N) (ad0 J N)) (bb_X1_copyFrom_82 M x0 x1 x2) := by
  unfold bb_X1_copyFrom_82
  (simp only [ad_T, ad_L, ad_I, ad_R, ad_wI, ad_wR, ad_cp, om_ck, om_dr, om_bd, om_bx, om_if, om_oI, bd_om, bx_om, lw_S, Option.map_some, Option.map_none, Sum.map_inl, Sum.map_inr, ad0_e, adS_e]) <;> rfl
theorem cm_lp_X1_copyFrom_82 {J : Nat → Nat → Int64} {N : Nat} {M : gMem} {x0 : Nat} {x1 : Option Nat} {x2 : Int32} : lp_X1_copyFrom_82 (ad J N M) x0 x1 x2 = Option.map (ad0 J N) (lp_X1_copyFrom_82 M x0 x1 x2) := lp_om (φ := adS J N) (ψ := (ad0 J N)) (fun q => cm_bb_X1_copyFrom_82) (fun a _ _ => ⟨a, rfl⟩) (M, x2)
theorem cm_b_X1_copyFrom_0 {J : Nat → Nat → Int64} {N : Nat} {M : gMem} {x0 : Nat} {x1 : Option Nat} : b_X1_copyFrom_0 (ad J N M) x0 x1 = Option.map (ad0 J N) (b_X1_copyFrom_0 M x0 x1) := by
  unfold b_X1_copyFrom_0
  (simp only [ad_T, ad_L, ad_I, ad_R, ad_wI, ad_wR, ad_cp, om_ck, om_dr, om_bd, om_bx, om_if, om_oI, bd_om, bx_om, lw_S, Option.map_some, Option.map_none, Sum.map_inl, Sum.map_inr, ad0_e, adS_e, cm_lp_X1_copyFrom_82]) <;> rfl
theorem cm_f_X1_copyFrom {J : Nat → Nat → Int64} {N : Nat} {M : gMem} {x0 : Nat} {x1 : Option Nat} : f_X1_copyFrom (ad J N M) x0 x1 = Option.map (ad0 J N) (f_X1_copyFrom M x0 x1) := by
  unfold f_X1_copyFrom
  (simp only [ad_T, ad_L, ad_I, ad_R, ad_wI, ad_wR, ad_cp, om_ck, om_dr, om_bd, om_bx, om_if, om_oI, bd_om, bx_om, lw_S, Option.map_some, Option.map_none, Sum.map_inl, Sum.map_inr, ad0_e, adS_e, cm_b_X1_copyFrom_0]) <;> rfl
theorem cm_b_X2_copyFrom_0 {J : Nat → Nat → Int64} {N : Nat} {M : gMem} {x0 : Nat} {x1 : Option Nat} : b_X2_copyFrom_0 (ad J N M) x0 x1 = Option.map (ad0 J N) (b_X2_copyFrom_0 M x0 x1) := by
  unfold b_X2_copyFrom_0
  (simp only [ad_T, ad_L, ad_I, ad_R, ad_wI, ad_wR, ad_cp, om_ck, om_dr, om_bd, om_bx, om_if, om_oI, bd_om, bx_om, lw_S, Option.map_some, Option.map_none, Sum.map_inl, Sum.map_inr, ad0_e, adS_e]) <;> rfl
theorem cm_f_X2_copyFrom {J : Nat → Nat → Int64} {N : Nat} {M : gMem} {x0 : Nat} {x1 : Option Nat} : f_X2_copyFrom (ad J N M) x0 x1 = Option.map (ad0 J N) (f_X2_copyFrom M x0 x1) := by
  unfold f_X2_copyFrom
  (simp only [ad_T, ad_L, ad_I, ad_R, ad_wI, ad_wR, ad_cp, om_ck, om_dr, om_bd, om_bx, om_if, om_oI, bd_om, bx_om, lw_S, Option.map_some, Option.map_none, Sum.map_inl, Sum.map_inr, ad0_e, adS_e, cm_b_X2_copyFrom_0]) <;> rfl
theorem cm_b_X5_splits_12 {J : Nat → Nat → Int64} {N : Nat} {M : gMem} {s0 : Int32} : b_X5_splits_12 (ad J N M) s0 = Option.map (ad0 J N) (b_X5_splits_12 M s0) := by
  unfold b_X5_splits_12
  (simp only [ad_T, ad_L, ad_I, ad_R, ad_wI, ad_wR, ad_cp, om_ck, om_dr, om_bd, om_bx, om_if, om_oI, bd_om, bx_om, lw_S, Option.map_some, Option.map_none, Sum.map_inl, Sum.map_inr, ad0_e, adS_e]) <;> rfl
theorem cm_b_X5_splits_0 {J : Nat → Nat → Int64} {N : Nat} {M : gMem} {x0 : Nat} : b_X5_splits_0 (ad J N M) x0 = Option.map (ad0 J N) (b_X5_splits_0 M x0) := by
  unfold b_X5_splits_0
  (simp only [ad_T, ad_L, ad_I, ad_R, ad_wI, ad_wR, ad_cp, om_ck, om_dr, om_bd, om_bx, om_if, om_oI, bd_om, bx_om, lw_S, Option.map_some, Option.map_none, Sum.map_inl, Sum.map_inr, ad0_e, adS_e, cm_b_X5_splits_12]) <;> rfl
theorem cm_f_X5_splits {J : Nat → Nat → Int64} {N : Nat} {M : gMem} {x0 : Nat} : f_X5_splits (ad J N M) x0 = Option.map (ad0 J N) (f_X5_splits M x0) := by
  unfold f_X5_splits
  (simp only [ad_T, ad_L, ad_I, ad_R, ad_wI, ad_wR, ad_cp, om_ck, om_dr, om_bd, om_bx, om_if, om_oI, bd_om, bx_om, lw_S, Option.map_some, Option.map_none, Sum.map_inl, Sum.map_inr, ad0_e, adS_e, cm_b_X5_splits_0]) <;> rfl
theorem cm_bb_X5_has_2 {J : Nat → Nat → Int64} {N : Nat} {M : gMem} {x0 : Nat} {x1 : Int32} {x2 : Int32} : bb_X5_has_2 (ad J N M) x0 x1 x2 = Option.map (Sum.map (adS J N) (ad0 J N)) (bb_X5_has_2 M x0 x1 x2) := by
  unfold bb_X5_has_2
  (simp only [ad_T, ad_L, ad_I, ad_R, ad_wI, ad_wR, ad_cp, om_ck, om_dr, om_bd, om_bx, om_if, om_oI, bd_om, bx_om, lw_S, Option.map_some, Option.map_none, Sum.map_inl, Sum.map_inr, ad0_e, adS_e]) <;> rfl
theorem cm_lp_X5_has_2 {J : Nat → Nat → Int64} {N : Nat} {M : gMem} {x0 : Nat} {x1 : Int32} {x2 : Int32} : lp_X5_has_2 (ad J N M) x0 x1 x2 = Option.map (ad0 J N) (lp_X5_has_2 M x0 x1 x2) := lp_om (φ := adS J N) (ψ := (ad0 J N)) (fun q => cm_bb_X5_has_2) (fun a _ _ => ⟨a, rfl⟩) (M, x2)
theorem cm_b_X5_has_0 {J : Nat → Nat → Int64} {N : Nat} {M : gMem} {x0 : Nat} {x1 : Int32} : b_X5_has_0 (ad J N M) x0 x1 = Option.map (ad0 J N) (b_X5_has_0 M x0 x1) := by
  unfold b_X5_has_0
  (simp only [ad_T, ad_L, ad_I, ad_R, ad_wI, ad_wR, ad_cp, om_ck, om_dr, om_bd, om_bx, om_if, om_oI, bd_om, bx_om, lw_S, Option.map_some, Option.map_none, Sum.map_inl, Sum.map_inr, ad0_e, adS_e, cm_lp_X5_has_2]) <;> rfl
theorem cm_f_X5_has {J : Nat → Nat → Int64} {N : Nat} {M : gMem} {x0 : Nat} {x1 : Int32} : f_X5_has (ad J N M) x0 x1 = Option.map (ad0 J N) (f_X5_has M x0 x1) := by
  unfold f_X5_has
  (simp only [ad_T, ad_L, ad_I, ad_R, ad_wI, ad_wR, ad_cp, om_ck, om_dr, om_bd, om_bx, om_if, om_oI, bd_om, bx_om, lw_S, Option.map_some, Option.map_none, Sum.map_inl, Sum.map_inr, ad0_e, adS_e, cm_b_X5_has_0]) <;> rfl
theorem cm_bb_X5_copyFrom_58 {J : Nat → Nat → Int64} {N : Nat} {M : gMem} {x0 : Nat} {x1 : Option Nat} {x2 : Int32} : bb_X5_copyFrom_58 (ad J N M) x0 x1 x2 = Option.map (Sum.map (adS J N) (ad0 J N)) (bb_X5_copyFrom_58 M x0 x1 x2) := by
  unfold bb_X5_copyFrom_58
  (simp only [ad_T, ad_L, ad_I, ad_R, ad_wI, ad_wR, ad_cp, om_ck, om_dr, om_bd, om_bx, om_if, om_oI, bd_om, bx_om, lw_S, Option.map_some, Option.map_none, Sum.map_inl, Sum.map_inr, ad0_e, adS_e]) <;> rfl
theorem cm_lp_X5_copyFrom_58 {J : Nat → Nat → Int64} {N : Nat} {M : gMem} {x0 : Nat} {x1 : Option Nat} {x2 : Int32} : lp_X5_copyFrom_58 (ad J N M) x0 x1 x2 = Option.map (ad0 J N) (lp_X5_copyFrom_58 M x0 x1 x2) := lp_om (φ := adS J N) (ψ := (ad0 J N)) (fun q => cm_bb_X5_copyFrom_58) (fun a _ _ => ⟨a, rfl⟩) (M, x2)
theorem cm_b_X5_copyFrom_0 {J : Nat → Nat → Int64} {N : Nat} {M : gMem} {x0 : Nat} {x1 : Option Nat} : b_X5_copyFrom_0 (ad J N M) x0 x1 = Option.map (ad0 J N) (b_X5_copyFrom_0 M x0 x1) := by
  unfold b_X5_copyFrom_0
  (simp only [ad_T, ad_L, ad_I, ad_R, ad_wI, ad_wR, ad_cp, om_ck, om_dr, om_bd, om_bx, om_if, om_oI, bd_om, bx_om, lw_S, Option.map_some, Option.map_none, Sum.map_inl, Sum.map_inr, ad0_e, adS_e, cm_lp_X5_copyFrom_58]) <;> rfl
theorem cm_f_X5_copyFrom {J : Nat → Nat → Int64} {N : Nat} {M : gMem} {x0 : Nat} {x1 : Option Nat} : f_X5_copyFrom (ad J N M) x0 x1 = Option.map (ad0 J N) (f_X5_copyFrom M x0 x1) := by
  unfold f_X5_copyFrom
  (simp only [ad_T, ad_L, ad_I, ad_R, ad_wI, ad_wR, ad_cp, om_ck, om_dr, om_bd, om_bx, om_if, om_oI, bd_om, bx_om, lw_S, Option.map_some, Option.map_none, Sum.map_inl, Sum.map_inr, ad0_e, adS_e, cm_b_X5_copyFrom_0]) <;> rfl
theorem cm_bb_X9_copyFrom_10 {J : Nat → Nat → Int64} {N : Nat} {Z : Nat → Nat} {M : gMem} {x0 : Nat} {x1 : Option Nat} {x2 : Int32} : bb_X9_copyFrom_10 Z (ad J N M) x0 x1 x2 = Option.map (Sum.map (adS J N) (ad0 J N)) (bb_X9_copyFrom_10 Z M x0 x1 x2) := by
  unfold bb_X9_copyFrom_10
  (simp only [ad_T, ad_L, ad_I, ad_R, ad_wI, ad_wR, ad_cp, om_ck, om_dr, om_bd, om_bx, om_if, om_oI, bd_om, bx_om, lw_S, Option.map_some, Option.map_none, Sum.map_inl, Sum.map_inr, ad0_e, adS_e]) <;> rfl
theorem cm_lp_X9_copyFrom_10 {J : Nat → Nat → Int64} {N : Nat} {Z : Nat → Nat} {M : gMem} {x0 : Nat} {x1 : Option Nat} {x2 : Int32} : lp_X9_copyFrom_10 Z (ad J N M) x0 x1 x2 = Option.map (ad0 J N) (lp_X9_copyFrom_10 Z M x0 x1 x2) := lp_om (φ := adS J N) (ψ := (ad0 J N)) (fun q => cm_bb_X9_copyFrom_10) (fun a _ _ => ⟨a, rfl⟩) (M, x2)
theorem cm_b_X9_copyFrom_0 {J : Nat → Nat → Int64} {N : Nat} {Z : Nat → Nat} {M : gMem} {x0 : Nat} {x1 : Option Nat} : b_X9_copyFrom_0 Z (ad J N M) x0 x1 = Option.map (ad0 J N) (b_X9_copyFrom_0 Z M x0 x1) := by
  unfold b_X9_copyFrom_0
  (simp only [ad_T, ad_L, ad_I, ad_R, ad_wI, ad_wR, ad_cp, om_ck, om_dr, om_bd, om_bx, om_if, om_oI, bd_om, bx_om, lw_S, Option.map_some, Option.map_none, Sum.map_inl, Sum.map_inr, ad0_e, adS_e, cm_lp_X9_copyFrom_10]) <;> rfl
theorem cm_f_X9_copyFrom {J : Nat → Nat → Int64} {N : Nat} {Z : Nat → Nat} {M : gMem} {x0 : Nat} {x1 : Option Nat} : f_X9_copyFrom Z (ad J N M) x0 x1 = Option.map (ad0 J N) (f_X9_copyFrom Z M x0 x1) := by
  unfold f_X9_copyFrom
  (simp only [ad_T, ad_L, ad_I, ad_R, ad_wI, ad_wR, ad_cp, om_ck, om_dr, om_bd, om_bx, om_if, om_oI, bd_om, bx_om, lw_S, Option.map_some, Option.map_none, Sum.map_inl, Sum.map_inr, ad0_e, adS_e, cm_b_X9_copyFrom_0]) <;> rfl
theorem cm_b_X9_valueOn_149 {J : Nat → Nat → Int64} {N : Nat} {Z : Nat → Nat} {M : gMem} {x2 : Int32} : b_X9_valueOn_149 Z (ad J N M) x2 = Option.map (ad0 J N) (b_X9_valueOn_149 Z M x2) := by
  unfold b_X9_valueOn_149
  (simp only [ad_T, ad_L, ad_I, ad_R, ad_wI, ad_wR, ad_cp, om_ck, om_dr, om_bd, om_bx, om_if, om_oI, bd_om, bx_om, lw_S, Option.map_some, Option.map_none, Sum.map_inl, Sum.map_inr, ad0_e, adS_e]) <;> rfl
theorem cm_b_X9_valueOn_128 {J : Nat → Nat → Int64} {N : Nat} {Z : Nat → Nat} {M : gMem} {s0 : Int32} : b_X9_valueOn_128 Z (ad J N M) s0 = Option.map (ad0 J N) (b_X9_valueOn_128 Z M s0) := by
  unfold b_X9_valueOn_128
  (simp only [ad_T, ad_L, ad_I, ad_R, ad_wI, ad_wR, ad_cp, om_ck, om_dr, om_bd, om_bx, om_if, om_oI, bd_om, bx_om, lw_S, Option.map_some, Option.map_none, Sum.map_inl, Sum.map_inr, ad0_e, adS_e]) <;> rfl
theorem cm_b_X9_valueOn_0 {J : Nat → Nat → Int64} {N : Nat} {Z : Nat → Nat} {M : gMem} {x0 : Option Nat} {x1 : Option Nat} {x2 : Int32} : b_X9_valueOn_0 Z (ad J N M) x0 x1 x2 = Option.map (ad0 J N) (b_X9_valueOn_0 Z M x0 x1 x2) := by
  unfold b_X9_valueOn_0
  (simp only [ad_T, ad_L, ad_I, ad_R, ad_wI, ad_wR, ad_cp, om_ck, om_dr, om_bd, om_bx, om_if, om_oI, bd_om, bx_om, lw_S, Option.map_some, Option.map_none, Sum.map_inl, Sum.map_inr, ad0_e, adS_e, cm_b_X9_valueOn_128, cm_b_X9_valueOn_149, cm_f_X3_allFish]) <;> rfl
theorem cm_f_X9_valueOn {J : Nat → Nat → Int64} {N : Nat} {Z : Nat → Nat} {M : gMem} {x0 : Option Nat} {x1 : Option Nat} {x2 : Int32} : f_X9_valueOn Z (ad J N M) x0 x1 x2 = Option.map (ad0 J N) (f_X9_valueOn Z M x0 x1 x2) := by
  unfold f_X9_valueOn
  (simp only [ad_T, ad_L, ad_I, ad_R, ad_wI, ad_wR, ad_cp, om_ck, om_dr, om_bd, om_bx, om_if, om_oI, bd_om, bx_om, lw_S, Option.map_some, Option.map_none, Sum.map_inl, Sum.map_inr, ad0_e, adS_e, cm_b_X9_valueOn_0]) <;> rfl
theorem cm_b_X9_combine_211 {J : Nat → Nat → Int64} {N : Nat} {Z : Nat → Nat} {M : gMem} : b_X9_combine_211 Z (ad J N M) = Option.map (ad0 J N) (b_X9_combine_211 Z M) := by
  unfold b_X9_combine_211
  (simp only [ad_T, ad_L, ad_I, ad_R, ad_wI, ad_wR, ad_cp, om_ck, om_dr, om_bd, om_bx, om_if, om_oI, bd_om, bx_om, lw_S, Option.map_some, Option.map_none, Sum.map_inl, Sum.map_inr, ad0_e, adS_e]) <;> rfl
theorem cm_b_X9_combine_210 {J : Nat → Nat → Int64} {N : Nat} {Z : Nat → Nat} {M : gMem} {s0 : Int32} : b_X9_combine_210 Z (ad J N M) s0 = Option.map (ad0 J N) (b_X9_combine_210 Z M s0) := by
  unfold b_X9_combine_210
  (simp only [ad_T, ad_L, ad_I, ad_R, ad_wI, ad_wR, ad_cp, om_ck, om_dr, om_bd, om_bx, om_if, om_oI, bd_om, bx_om, lw_S, Option.map_some, Option.map_none, Sum.map_inl, Sum.map_inr, ad0_e, adS_e]) <;> rfl
theorem cm_b_X9_combine_199 {J : Nat → Nat → Int64} {N : Nat} {Z : Nat → Nat} {M : gMem} {s0 : Int32} : b_X9_combine_199 Z (ad J N M) s0 = Option.map (ad0 J N) (b_X9_combine_199 Z M s0) := by
  unfold b_X9_combine_199
  (simp only [ad_T, ad_L, ad_I, ad_R, ad_wI, ad_wR, ad_cp, om_ck, om_dr, om_bd, om_bx, om_if, om_oI, bd_om, bx_om, lw_S, Option.map_some, Option.map_none, Sum.map_inl, Sum.map_inr, ad0_e, adS_e]) <;> rfl
theorem cm_b_X9_combine_188 {J : Nat → Nat → Int64} {N : Nat} {Z : Nat → Nat} {M : gMem} {s0 : Int32} : b_X9_combine_188 Z (ad J N M) s0 = Option.map (ad0 J N) (b_X9_combine_188 Z M s0) := by
  unfold b_X9_combine_188
  (simp only [ad_T, ad_L, ad_I, ad_R, ad_wI, ad_wR, ad_cp, om_ck, om_dr, om_bd, om_bx, om_if, om_oI, bd_om, bx_om, lw_S, Option.map_some, Option.map_none, Sum.map_inl, Sum.map_inr, ad0_e, adS_e]) <;> rfl
theorem cm_b_X9_combine_177 {J : Nat → Nat → Int64} {N : Nat} {Z : Nat → Nat} {M : gMem} {s0 : Int32} : b_X9_combine_177 Z (ad J N M) s0 = Option.map (ad0 J N) (b_X9_combine_177 Z M s0) := by
  unfold b_X9_combine_177
  (simp only [ad_T, ad_L, ad_I, ad_R, ad_wI, ad_wR, ad_cp, om_ck, om_dr, om_bd, om_bx, om_if, om_oI, bd_om, bx_om, lw_S, Option.map_some, Option.map_none, Sum.map_inl, Sum.map_inr, ad0_e, adS_e]) <;> rfl
theorem cm_b_X9_combine_166 {J : Nat → Nat → Int64} {N : Nat} {Z : Nat → Nat} {M : gMem} {s0 : Int32} : b_X9_combine_166 Z (ad J N M) s0 = Option.map (ad0 J N) (b_X9_combine_166 Z M s0) := by
  unfold b_X9_combine_166
  (simp only [ad_T, ad_L, ad_I, ad_R, ad_wI, ad_wR, ad_cp, om_ck, om_dr, om_bd, om_bx, om_if, om_oI, bd_om, bx_om, lw_S, Option.map_some, Option.map_none, Sum.map_inl, Sum.map_inr, ad0_e, adS_e]) <;> rfl
theorem cm_b_X9_combine_135 {J : Nat → Nat → Int64} {N : Nat} {Z : Nat → Nat} {M : gMem} {s0 : Int32} : b_X9_combine_135 Z (ad J N M) s0 = Option.map (ad0 J N) (b_X9_combine_135 Z M s0) := by
  unfold b_X9_combine_135
  (simp only [ad_T, ad_L, ad_I, ad_R, ad_wI, ad_wR, ad_cp, om_ck, om_dr, om_bd, om_bx, om_if, om_oI, bd_om, bx_om, lw_S, Option.map_some, Option.map_none, Sum.map_inl, Sum.map_inr, ad0_e, adS_e]) <;> rfl
theorem cm_b_X9_combine_0 {J : Nat → Nat → Int64} {N : Nat} {Z : Nat → Nat} {M : gMem} {x0 : Option Nat} {x1 : Int32} {x2 : Int32} : b_X9_combine_0 Z (ad J N M) x0 x1 x2 = Option.map (ad0 J N) (b_X9_combine_0 Z M x0 x1 x2) := by
  unfold b_X9_combine_0
  (simp only [ad_T, ad_L, ad_I, ad_R, ad_wI, ad_wR, ad_cp, om_ck, om_dr, om_bd, om_bx, om_if, om_oI, bd_om, bx_om, lw_S, Option.map_some, Option.map_none, Sum.map_inl, Sum.map_inr, ad0_e, adS_e, cm_b_X9_combine_166, cm_b_X9_combine_177, cm_b_X9_combine_188, cm_b_X9_combine_199, cm_b_X9_combine_210, cm_b_X9_combine_211, cm_b_X9_combine_135]) <;> rfl
theorem cm_f_X9_combine {J : Nat → Nat → Int64} {N : Nat} {Z : Nat → Nat} {M : gMem} {x0 : Option Nat} {x1 : Int32} {x2 : Int32} : f_X9_combine Z (ad J N M) x0 x1 x2 = Option.map (ad0 J N) (f_X9_combine Z M x0 x1 x2) := by
  unfold f_X9_combine
  (simp only [ad_T, ad_L, ad_I, ad_R, ad_wI, ad_wR, ad_cp, om_ck, om_dr, om_bd, om_bx, om_if, om_oI, bd_om, bx_om, lw_S, Option.map_some, Option.map_none, Sum.map_inl, Sum.map_inr, ad0_e, adS_e, cm_b_X9_combine_0]) <;> rfl
theorem cm_b_X9_reckon_289 {J : Nat → Nat → Int64} {N : Nat} {Z : Nat → Nat} {M : gMem} {s0 : Int32} : b_X9_reckon_289 Z (ad J N M) s0 = Option.map (ad0 J N) (b_X9_reckon_289 Z M s0) := by
  unfold b_X9_reckon_289
  (simp only [ad_T, ad_L, ad_I, ad_R, ad_wI, ad_wR, ad_cp, om_ck, om_dr, om_bd, om_bx, om_if, om_oI, bd_om, bx_om, lw_S, Option.map_some, Option.map_none, Sum.map_inl, Sum.map_inr, ad0_e, adS_e]) <;> rfl
theorem cm_b_X9_reckon_274 {J : Nat → Nat → Int64} {N : Nat} {Z : Nat → Nat} {M : gMem} {x0 : Nat} {x4 : Int32} : b_X9_reckon_274 Z (ad J N M) x0 x4 = Option.map (ad0 J N) (b_X9_reckon_274 Z M x0 x4) := by
  unfold b_X9_reckon_274
  (simp only [ad_T, ad_L, ad_I, ad_R, ad_wI, ad_wR, ad_cp, om_ck, om_dr, om_bd, om_bx, om_if, om_oI, bd_om, bx_om, lw_S, Option.map_some, Option.map_none, Sum.map_inl, Sum.map_inr, ad0_e, adS_e, cm_b_X9_reckon_289]) <;> rfl
theorem cm_b_X9_reckon_268 {J : Nat → Nat → Int64} {N : Nat} {Z : Nat → Nat} {M : gMem} {x0 : Nat} {x2 : Int32} {x3 : Option Nat} {x4 : Int32} {x5 : Int32} : b_X9_reckon_268 Z (ad J N M) x0 x2 x3 x4 x5 = Option.map (Sum.map (adS J N) (ad0 J N)) (b_X9_reckon_268 Z M x0 x2 x3 x4 x5) := by
  unfold b_X9_reckon_268
  (simp only [ad_T, ad_L, ad_I, ad_R, ad_wI, ad_wR, ad_cp, om_ck, om_dr, om_bd, om_bx, om_if, om_oI, bd_om, bx_om, lw_S, Option.map_some, Option.map_none, Sum.map_inl, Sum.map_inr, ad0_e, adS_e]) <;> rfl
theorem cm_b_X9_reckon_224 {J : Nat → Nat → Int64} {N : Nat} {Z : Nat → Nat} {M : gMem} {x0 : Nat} {x2 : Int32} {x3 : Option Nat} {x4 : Int32} {x5 : Int32} : b_X9_reckon_224 Z (ad J N M) x0 x2 x3 x4 x5 = Option.map (Sum.map (adS J N) (ad0 J N)) (b_X9_reckon_224 Z M x0 x2 x3 x4 x5) := by
  unfold b_X9_reckon_224
  (simp only [ad_T, ad_L, ad_I, ad_R, ad_wI, ad_wR, ad_cp, om_ck, om_dr, om_bd, om_bx, om_if, om_oI, bd_om, bx_om, lw_S, Option.map_some, Option.map_none, Sum.map_inl, Sum.map_inr, ad0_e, adS_e, cm_b_X9_reckon_268, cm_f_X9_combine]) <;> rfl
theorem cm_b_X9_reckon_220 {J : Nat → Nat → Int64} {N : Nat} {Z : Nat → Nat} {M : gMem} {x0 : Nat} {x2 : Int32} {x3 : Option Nat} {x4 : Int32} {x5 : Int32} {s0 : Option Nat} {s1 : Int32} {s2 : Int32} : b_X9_reckon_220 Z (ad J N M) x0 x2 x3 x4 x5 s0 s1 s2 = Option.map (Sum.map (adS J N) (ad0 J N)) (b_X9_reckon_220 Z M x0 x2 x3 x4 x5 s0 s1 s2) := by
  unfold b_X9_reckon_220
  (simp only [ad_T, ad_L, ad_I, ad_R, ad_wI, ad_wR, ad_cp, om_ck, om_dr, om_bd, om_bx, om_if, om_oI, bd_om, bx_om, lw_S, Option.map_some, Option.map_none, Sum.map_inl, Sum.map_inr, ad0_e, adS_e, cm_b_X9_reckon_268]) <;> rfl
theorem cm_b_X9_reckon_169 {J : Nat → Nat → Int64} {N : Nat} {Z : Nat → Nat} {M : gMem} {x0 : Nat} {x2 : Int32} {x3 : Option Nat} {x4 : Int32} {x5 : Int32} : b_X9_reckon_169 Z (ad J N M) x0 x2 x3 x4 x5 = Option.map (Sum.map (adS J N) (ad0 J N)) (b_X9_reckon_169 Z M x0 x2 x3 x4 x5) := by
  unfold b_X9_reckon_169
  (simp only [ad_T, ad_L, ad_I, ad_R, ad_wI, ad_wR, ad_cp, om_ck, om_dr, om_bd, om_bx, om_if, om_oI, bd_om, bx_om, lw_S, Option.map_some, Option.map_none, Sum.map_inl, Sum.map_inr, ad0_e, adS_e, cm_b_X9_reckon_268, cm_b_X9_reckon_220]) <;> rfl
theorem cm_b_X9_reckon_128 {J : Nat → Nat → Int64} {N : Nat} {Z : Nat → Nat} {M : gMem} {x0 : Nat} {x2 : Int32} {x3 : Option Nat} {x4 : Int32} {x5 : Int32} : b_X9_reckon_128 Z (ad J N M) x0 x2 x3 x4 x5 = Option.map (Sum.map (adS J N) (ad0 J N)) (b_X9_reckon_128 Z M x0 x2 x3 x4 x5) := by
  unfold b_X9_reckon_128
  (simp only [ad_T, ad_L, ad_I, ad_R, ad_wI, ad_wR, ad_cp, om_ck, om_dr, om_bd, om_bx, om_if, om_oI, bd_om, bx_om, lw_S, Option.map_some, Option.map_none, Sum.map_inl, Sum.map_inr, ad0_e, adS_e, cm_b_X9_reckon_268, cm_f_X9_valueOn]) <;> rfl
theorem cm_bb_X9_reckon_6 {J : Nat → Nat → Int64} {N : Nat} {Z : Nat → Nat} {M : gMem} {x0 : Nat} {x2 : Int32} {x3 : Option Nat} {x4 : Int32} {x5 : Int32} : bb_X9_reckon_6 Z (ad J N M) x0 x2 x3 x4 x5 = Option.map (Sum.map (adS J N) (ad0 J N)) (bb_X9_reckon_6 Z M x0 x2 x3 x4 x5) := by
  unfold bb_X9_reckon_6
  (simp only [ad_T, ad_L, ad_I, ad_R, ad_wI, ad_wR, ad_cp, om_ck, om_dr, om_bd, om_bx, om_if, om_oI, bd_om, bx_om, lw_S, Option.map_some, Option.map_none, Sum.map_inl, Sum.map_inr, ad0_e, adS_e, cm_b_X9_reckon_274, cm_b_X9_reckon_169, cm_b_X9_reckon_224, cm_b_X9_reckon_128]) <;> rfl
theorem cm_lp_X9_reckon_6 {J : Nat → Nat → Int64} {N : Nat} {Z : Nat → Nat} {M : gMem} {x0 : Nat} {x2 : Int32} {x3 : Option Nat} {x4 : Int32} {x5 : Int32} : lp_X9_reckon_6 Z (ad J N M) x0 x2 x3 x4 x5 = Option.map (ad0 J N) (lp_X9_reckon_6 Z M x0 x2 x3 x4 x5) := lp_om (φ := adS J N) (ψ := (ad0 J N)) (fun q => cm_bb_X9_reckon_6) (fun a _ _ => ⟨a, rfl⟩) (M, x4, x5)
theorem cm_b_X9_reckon_0 {J : Nat → Nat → Int64} {N : Nat} {Z : Nat → Nat} {M : gMem} {x0 : Nat} {x1 : Int32} {x2 : Int32} {x3 : Option Nat} : b_X9_reckon_0 Z (ad J N M) x0 x1 x2 x3 = Option.map (ad0 J N) (b_X9_reckon_0 Z M x0 x1 x2 x3) := by
  unfold b_X9_reckon_0
  (simp only [ad_T, ad_L, ad_I, ad_R, ad_wI, ad_wR, ad_cp, om_ck, om_dr, om_bd, om_bx, om_if, om_oI, bd_om, bx_om, lw_S, Option.map_some, Option.map_none, Sum.map_inl, Sum.map_inr, ad0_e, adS_e, cm_lp_X9_reckon_6]) <;> rfl
theorem cm_f_X9_reckon {J : Nat → Nat → Int64} {N : Nat} {Z : Nat → Nat} {M : gMem} {x0 : Nat} {x1 : Int32} {x2 : Int32} {x3 : Option Nat} : f_X9_reckon Z (ad J N M) x0 x1 x2 x3 = Option.map (ad0 J N) (f_X9_reckon Z M x0 x1 x2 x3) := by
  unfold f_X9_reckon
  (simp only [ad_T, ad_L, ad_I, ad_R, ad_wI, ad_wR, ad_cp, om_ck, om_dr, om_bd, om_bx, om_if, om_oI, bd_om, bx_om, lw_S, Option.map_some, Option.map_none, Sum.map_inl, Sum.map_inr, ad0_e, adS_e, cm_b_X9_reckon_0]) <;> rfl
theorem cm_bb_X7_copyFrom_143 {J : Nat → Nat → Int64} {N : Nat} {Z : Nat → Nat} {M : gMem} {x0 : Nat} {x1 : Option Nat} {x2 : Int32} : bb_X7_copyFrom_143 Z (ad J N M) x0 x1 x2 = Option.map (Sum.map (adS J N) (ad0 J N)) (bb_X7_copyFrom_143 Z M x0 x1 x2) := by
  unfold bb_X7_copyFrom_143
  (simp only [ad_T, ad_L, ad_I, ad_R, ad_wI, ad_wR, ad_cp, om_ck, om_dr, om_bd, om_bx, om_if, om_oI, bd_om, bx_om, lw_S, Option.map_some, Option.map_none, Sum.map_inl, Sum.map_inr, ad0_e, adS_e, cm_f_X9_copyFrom, cm_f_X5_copyFrom]) <;> rfl
theorem cm_lp_X7_copyFrom_143 {J : Nat → Nat → Int64} {N : Nat} {Z : Nat → Nat} {M : gMem} {x0 : Nat} {x1 : Option Nat} {x2 : Int32} : lp_X7_copyFrom_143 Z (ad J N M) x0 x1 x2 = Option.map (ad0 J N) (lp_X7_copyFrom_143 Z M x0 x1 x2) := lp_om (φ := adS J N) (ψ := (ad0 J N)) (fun q => cm_bb_X7_copyFrom_143) (fun a _ _ => ⟨a, rfl⟩) (M, x2)
theorem cm_bb_X7_copyFrom_112 {J : Nat → Nat → Int64} {N : Nat} {Z : Nat → Nat} {M : gMem} {x0 : Nat} {x1 : Option Nat} {x2 : Int32} : bb_X7_copyFrom_112 Z (ad J N M) x0 x1 x2 = Option.map (Sum.map (adS J N) (ad0 J N)) (bb_X7_copyFrom_112 Z M x0 x1 x2) := by
  unfold bb_X7_copyFrom_112
  (simp only [ad_T, ad_L, ad_I, ad_R, ad_wI, ad_wR, ad_cp, om_ck, om_dr, om_bd, om_bx, om_if, om_oI, bd_om, bx_om, lw_S, Option.map_some, Option.map_none, Sum.map_inl, Sum.map_inr, ad0_e, adS_e, cm_lp_X7_copyFrom_143, cm_f_X2_copyFrom]) <;> rfl
theorem cm_lp_X7_copyFrom_112 {J : Nat → Nat → Int64} {N : Nat} {Z : Nat → Nat} {M : gMem} {x0 : Nat} {x1 : Option Nat} {x2 : Int32} : lp_X7_copyFrom_112 Z (ad J N M) x0 x1 x2 = Option.map (ad0 J N) (lp_X7_copyFrom_112 Z M x0 x1 x2) := lp_om (φ := adS J N) (ψ := (ad0 J N)) (fun q => cm_bb_X7_copyFrom_112) (fun a _ _ => ⟨a, rfl⟩) (M, x2)
theorem cm_bb_X7_copyFrom_81 {J : Nat → Nat → Int64} {N : Nat} {Z : Nat → Nat} {M : gMem} {x0 : Nat} {x1 : Option Nat} {x2 : Int32} : bb_X7_copyFrom_81 Z (ad J N M) x0 x1 x2 = Option.map (Sum.map (adS J N) (ad0 J N)) (bb_X7_copyFrom_81 Z M x0 x1 x2) := by
  unfold bb_X7_copyFrom_81
  (simp only [ad_T, ad_L, ad_I, ad_R, ad_wI, ad_wR, ad_cp, om_ck, om_dr, om_bd, om_bx, om_if, om_oI, bd_om, bx_om, lw_S, Option.map_some, Option.map_none, Sum.map_inl, Sum.map_inr, ad0_e, adS_e, cm_lp_X7_copyFrom_112, cm_f_X1_copyFrom]) <;> rfl
theorem cm_lp_X7_copyFrom_81 {J : Nat → Nat → Int64} {N : Nat} {Z : Nat → Nat} {M : gMem} {x0 : Nat} {x1 : Option Nat} {x2 : Int32} : lp_X7_copyFrom_81 Z (ad J N M) x0 x1 x2 = Option.map (ad0 J N) (lp_X7_copyFrom_81 Z M x0 x1 x2) := lp_om (φ := adS J N) (ψ := (ad0 J N)) (fun q => cm_bb_X7_copyFrom_81) (fun a _ _ => ⟨a, rfl⟩) (M, x2)
theorem cm_bb_X7_copyFrom_50 {J : Nat → Nat → Int64} {N : Nat} {Z : Nat → Nat} {M : gMem} {x0 : Nat} {x1 : Option Nat} {x2 : Int32} : bb_X7_copyFrom_50 Z (ad J N M) x0 x1 x2 = Option.map (Sum.map (adS J N) (ad0 J N)) (bb_X7_copyFrom_50 Z M x0 x1 x2) := by
  unfold bb_X7_copyFrom_50
  (simp only [ad_T, ad_L, ad_I, ad_R, ad_wI, ad_wR, ad_cp, om_ck, om_dr, om_bd, om_bx, om_if, om_oI, bd_om, bx_om, lw_S, Option.map_some, Option.map_none, Sum.map_inl, Sum.map_inr, ad0_e, adS_e, cm_lp_X7_copyFrom_81, cm_f_X3_copyFrom]) <;> rfl
theorem cm_lp_X7_copyFrom_50 {J : Nat → Nat → Int64} {N : Nat} {Z : Nat → Nat} {M : gMem} {x0 : Nat} {x1 : Option Nat} {x2 : Int32} : lp_X7_copyFrom_50 Z (ad J N M) x0 x1 x2 = Option.map (ad0 J N) (lp_X7_copyFrom_50 Z M x0 x1 x2) := lp_om (φ := adS J N) (ψ := (ad0 J N)) (fun q => cm_bb_X7_copyFrom_50) (fun a _ _ => ⟨a, rfl⟩) (M, x2)
theorem cm_b_X7_copyFrom_0 {J : Nat → Nat → Int64} {N : Nat} {Z : Nat → Nat} {M : gMem} {x0 : Nat} {x1 : Option Nat} : b_X7_copyFrom_0 Z (ad J N M) x0 x1 = Option.map (ad0 J N) (b_X7_copyFrom_0 Z M x0 x1) := by
  unfold b_X7_copyFrom_0
  (simp only [ad_T, ad_L, ad_I, ad_R, ad_wI, ad_wR, ad_cp, om_ck, om_dr, om_bd, om_bx, om_if, om_oI, bd_om, bx_om, lw_S, Option.map_some, Option.map_none, Sum.map_inl, Sum.map_inr, ad0_e, adS_e, cm_lp_X7_copyFrom_50]) <;> rfl
theorem cm_f_X7_copyFrom {J : Nat → Nat → Int64} {N : Nat} {Z : Nat → Nat} {M : gMem} {x0 : Nat} {x1 : Option Nat} : f_X7_copyFrom Z (ad J N M) x0 x1 = Option.map (ad0 J N) (f_X7_copyFrom Z M x0 x1) := by
  unfold f_X7_copyFrom
  (simp only [ad_T, ad_L, ad_I, ad_R, ad_wI, ad_wR, ad_cp, om_ck, om_dr, om_bd, om_bx, om_if, om_oI, bd_om, bx_om, lw_S, Option.map_some, Option.map_none, Sum.map_inl, Sum.map_inr, ad0_e, adS_e, cm_b_X7_copyFrom_0]) <;> rfl
theorem cm_bb_X7_allFish_4 {J : Nat → Nat → Int64} {N : Nat} {M : gMem} {x0 : Nat} {x1 : Int32} {x2 : Int32} : bb_X7_allFish_4 (ad J N M) x0 x1 x2 = Option.map (Sum.map (adS J N) (ad0 J N)) (bb_X7_allFish_4 M x0 x1 x2) := by
  unfold bb_X7_allFish_4
  (simp only [ad_T, ad_L, ad_I, ad_R, ad_wI, ad_wR, ad_cp, om_ck, om_dr, om_bd, om_bx, om_if, om_oI, bd_om, bx_om, lw_S, Option.map_some, Option.map_none, Sum.map_inl, Sum.map_inr, ad0_e, adS_e, cm_f_X3_allFish]) <;> rfl
theorem cm_lp_X7_allFish_4 {J : Nat → Nat → Int64} {N : Nat} {M : gMem} {x0 : Nat} {x1 : Int32} {x2 : Int32} : lp_X7_allFish_4 (ad J N M) x0 x1 x2 = Option.map (ad0 J N) (lp_X7_allFish_4 M x0 x1 x2) := lp_om (φ := adS J N) (ψ := (ad0 J N)) (fun q => cm_bb_X7_allFish_4) (fun a _ _ => ⟨a, rfl⟩) (M, x1, x2)
theorem cm_b_X7_allFish_0 {J : Nat → Nat → Int64} {N : Nat} {M : gMem} {x0 : Nat} : b_X7_allFish_0 (ad J N M) x0 = Option.map (ad0 J N) (b_X7_allFish_0 M x0) := by
  unfold b_X7_allFish_0
  (simp only [ad_T, ad_L, ad_I, ad_R, ad_wI, ad_wR, ad_cp, om_ck, om_dr, om_bd, om_bx, om_if, om_oI, bd_om, bx_om, lw_S, Option.map_some, Option.map_none, Sum.map_inl, Sum.map_inr, ad0_e, adS_e, cm_lp_X7_allFish_4]) <;> rfl
theorem cm_f_X7_allFish {J : Nat → Nat → Int64} {N : Nat} {M : gMem} {x0 : Nat} : f_X7_allFish (ad J N M) x0 = Option.map (ad0 J N) (f_X7_allFish M x0) := by
  unfold f_X7_allFish
  (simp only [ad_T, ad_L, ad_I, ad_R, ad_wI, ad_wR, ad_cp, om_ck, om_dr, om_bd, om_bx, om_if, om_oI, bd_om, bx_om, lw_S, Option.map_some, Option.map_none, Sum.map_inl, Sum.map_inr, ad0_e, adS_e, cm_b_X7_allFish_0]) <;> rfl
theorem cm_bb_X7_allStores_4 {J : Nat → Nat → Int64} {N : Nat} {M : gMem} {x0 : Nat} {x1 : Int32} {x2 : Int32} : bb_X7_allStores_4 (ad J N M) x0 x1 x2 = Option.map (Sum.map (adS J N) (ad0 J N)) (bb_X7_allStores_4 M x0 x1 x2) := by
  unfold bb_X7_allStores_4
  (simp only [ad_T, ad_L, ad_I, ad_R, ad_wI, ad_wR, ad_cp, om_ck, om_dr, om_bd, om_bx, om_if, om_oI, bd_om, bx_om, lw_S, Option.map_some, Option.map_none, Sum.map_inl, Sum.map_inr, ad0_e, adS_e]) <;> rfl
theorem cm_lp_X7_allStores_4 {J : Nat → Nat → Int64} {N : Nat} {M : gMem} {x0 : Nat} {x1 : Int32} {x2 : Int32} : lp_X7_allStores_4 (ad J N M) x0 x1 x2 = Option.map (ad0 J N) (lp_X7_allStores_4 M x0 x1 x2) := lp_om (φ := adS J N) (ψ := (ad0 J N)) (fun q => cm_bb_X7_allStores_4) (fun a _ _ => ⟨a, rfl⟩) (M, x1, x2)
theorem cm_b_X7_allStores_0 {J : Nat → Nat → Int64} {N : Nat} {M : gMem} {x0 : Nat} : b_X7_allStores_0 (ad J N M) x0 = Option.map (ad0 J N) (b_X7_allStores_0 M x0) := by
  unfold b_X7_allStores_0
  (simp only [ad_T, ad_L, ad_I, ad_R, ad_wI, ad_wR, ad_cp, om_ck, om_dr, om_bd, om_bx, om_if, om_oI, bd_om, bx_om, lw_S, Option.map_some, Option.map_none, Sum.map_inl, Sum.map_inr, ad0_e, adS_e, cm_lp_X7_allStores_4]) <;> rfl
theorem cm_f_X7_allStores {J : Nat → Nat → Int64} {N : Nat} {M : gMem} {x0 : Nat} : f_X7_allStores (ad J N M) x0 = Option.map (ad0 J N) (f_X7_allStores M x0) := by
  unfold f_X7_allStores
  (simp only [ad_T, ad_L, ad_I, ad_R, ad_wI, ad_wR, ad_cp, om_ck, om_dr, om_bd, om_bx, om_if, om_oI, bd_om, bx_om, lw_S, Option.map_some, Option.map_none, Sum.map_inl, Sum.map_inr, ad0_e, adS_e, cm_b_X7_allStores_0]) <;> rfl
theorem cm_b_X7_widenedNets_39 {J : Nat → Nat → Int64} {N : Nat} {M : gMem} {x0 : Nat} {x2 : Int32} {s0 : Int32} {s1 : Int32} : b_X7_widenedNets_39 (ad J N M) x0 x2 s0 s1 = Option.map (Sum.map (adS J N) (ad0 J N)) (b_X7_widenedNets_39 M x0 x2 s0 s1) := by
  unfold b_X7_widenedNets_39
  (simp only [ad_T, ad_L, ad_I, ad_R, ad_wI, ad_wR, ad_cp, om_ck, om_dr, om_bd, om_bx, om_if, om_oI, bd_om, bx_om, lw_S, Option.map_some, Option.map_none, Sum.map_inl, Sum.map_inr, ad0_e, adS_e]) <;> rfl
theorem cm_bb_X7_widenedNets_4 {J : Nat → Nat → Int64} {N : Nat} {M : gMem} {x0 : Nat} {x1 : Int32} {x2 : Int32} : bb_X7_widenedNets_4 (ad J N M) x0 x1 x2 = Option.map (Sum.map (adS J N) (ad0 J N)) (bb_X7_widenedNets_4 M x0 x1 x2) := by
  unfold bb_X7_widenedNets_4
  (simp only [ad_T, ad_L, ad_I, ad_R, ad_wI, ad_wR, ad_cp, om_ck, om_dr, om_bd, om_bx, om_if, om_oI, bd_om, bx_om, lw_S, Option.map_some, Option.map_none, Sum.map_inl, Sum.map_inr, ad0_e, adS_e, cm_b_X7_widenedNets_39]) <;> rfl
theorem cm_lp_X7_widenedNets_4 {J : Nat → Nat → Int64} {N : Nat} {M : gMem} {x0 : Nat} {x1 : Int32} {x2 : Int32} : lp_X7_widenedNets_4 (ad J N M) x0 x1 x2 = Option.map (ad0 J N) (lp_X7_widenedNets_4 M x0 x1 x2) := lp_om (φ := adS J N) (ψ := (ad0 J N)) (fun q => cm_bb_X7_widenedNets_4) (fun a _ _ => ⟨a, rfl⟩) (M, x1, x2)
theorem cm_b_X7_widenedNets_0 {J : Nat → Nat → Int64} {N : Nat} {M : gMem} {x0 : Nat} : b_X7_widenedNets_0 (ad J N M) x0 = Option.map (ad0 J N) (b_X7_widenedNets_0 M x0) := by
  unfold b_X7_widenedNets_0
  (simp only [ad_T, ad_L, ad_I, ad_R, ad_wI, ad_wR, ad_cp, om_ck, om_dr, om_bd, om_bx, om_if, om_oI, bd_om, bx_om, lw_S, Option.map_some, Option.map_none, Sum.map_inl, Sum.map_inr, ad0_e, adS_e, cm_lp_X7_widenedNets_4]) <;> rfl
theorem cm_f_X7_widenedNets {J : Nat → Nat → Int64} {N : Nat} {M : gMem} {x0 : Nat} : f_X7_widenedNets (ad J N M) x0 = Option.map (ad0 J N) (f_X7_widenedNets M x0) := by
  unfold f_X7_widenedNets
  (simp only [ad_T, ad_L, ad_I, ad_R, ad_wI, ad_wR, ad_cp, om_ck, om_dr, om_bd, om_bx, om_if, om_oI, bd_om, bx_om, lw_S, Option.map_some, Option.map_none, Sum.map_inl, Sum.map_inr, ad0_e, adS_e, cm_b_X7_widenedNets_0]) <;> rfl
theorem cm_b_X7_allCheats_30 {J : Nat → Nat → Int64} {N : Nat} {M : gMem} {x0 : Nat} {x2 : Int32} {s0 : Int32} {s1 : Int32} : b_X7_allCheats_30 (ad J N M) x0 x2 s0 s1 = Option.map (Sum.map (adS J N) (ad0 J N)) (b_X7_allCheats_30 M x0 x2 s0 s1) := by
  unfold b_X7_allCheats_30
  (simp only [ad_T, ad_L, ad_I, ad_R, ad_wI, ad_wR, ad_cp, om_ck, om_dr, om_bd, om_bx, om_if, om_oI, bd_om, bx_om, lw_S, Option.map_some, Option.map_none, Sum.map_inl, Sum.map_inr, ad0_e, adS_e]) <;> rfl
theorem cm_bb_X7_allCheats_4 {J : Nat → Nat → Int64} {N : Nat} {M : gMem} {x0 : Nat} {x1 : Int32} {x2 : Int32} : bb_X7_allCheats_4 (ad J N M) x0 x1 x2 = Option.map (Sum.map (adS J N) (ad0 J N)) (bb_X7_allCheats_4 M x0 x1 x2) := by
  unfold bb_X7_allCheats_4
  (simp only [ad_T, ad_L, ad_I, ad_R, ad_wI, ad_wR, ad_cp, om_ck, om_dr, om_bd, om_bx, om_if, om_oI, bd_om, bx_om, lw_S, Option.map_some, Option.map_none, Sum.map_inl, Sum.map_inr, ad0_e, adS_e, cm_b_X7_allCheats_30]) <;> rfl
theorem cm_lp_X7_allCheats_4 {J : Nat → Nat → Int64} {N : Nat} {M : gMem} {x0 : Nat} {x1 : Int32} {x2 : Int32} : lp_X7_allCheats_4 (ad J N M) x0 x1 x2 = Option.map (ad0 J N) (lp_X7_allCheats_4 M x0 x1 x2) := lp_om (φ := adS J N) (ψ := (ad0 J N)) (fun q => cm_bb_X7_allCheats_4) (fun a _ _ => ⟨a, rfl⟩) (M, x1, x2)
theorem cm_b_X7_allCheats_0 {J : Nat → Nat → Int64} {N : Nat} {M : gMem} {x0 : Nat} : b_X7_allCheats_0 (ad J N M) x0 = Option.map (ad0 J N) (b_X7_allCheats_0 M x0) := by
  unfold b_X7_allCheats_0
  (simp only [ad_T, ad_L, ad_I, ad_R, ad_wI, ad_wR, ad_cp, om_ck, om_dr, om_bd, om_bx, om_if, om_oI, bd_om, bx_om, lw_S, Option.map_some, Option.map_none, Sum.map_inl, Sum.map_inr, ad0_e, adS_e, cm_lp_X7_allCheats_4]) <;> rfl
theorem cm_f_X7_allCheats {J : Nat → Nat → Int64} {N : Nat} {M : gMem} {x0 : Nat} : f_X7_allCheats (ad J N M) x0 = Option.map (ad0 J N) (f_X7_allCheats M x0) := by
  unfold f_X7_allCheats
  (simp only [ad_T, ad_L, ad_I, ad_R, ad_wI, ad_wR, ad_cp, om_ck, om_dr, om_bd, om_bx, om_if, om_oI, bd_om, bx_om, lw_S, Option.map_some, Option.map_none, Sum.map_inl, Sum.map_inr, ad0_e, adS_e, cm_b_X7_allCheats_0]) <;> rfl
theorem cm_bb_X7_storeGap_23 {J : Nat → Nat → Int64} {N : Nat} {M : gMem} {x0 : Nat} {x1 : Int32} {x2 : Int32} {x3 : Int32} : bb_X7_storeGap_23 (ad J N M) x0 x1 x2 x3 = Option.map (Sum.map (adS J N) (ad0 J N)) (bb_X7_storeGap_23 M x0 x1 x2 x3) := by
  unfold bb_X7_storeGap_23
  (simp only [ad_T, ad_L, ad_I, ad_R, ad_wI, ad_wR, ad_cp, om_ck, om_dr, om_bd, om_bx, om_if, om_oI, bd_om, bx_om, lw_S, Option.map_some, Option.map_none, Sum.map_inl, Sum.map_inr, ad0_e, adS_e]) <;> rfl
theorem cm_lp_X7_storeGap_23 {J : Nat → Nat → Int64} {N : Nat} {M : gMem} {x0 : Nat} {x1 : Int32} {x2 : Int32} {x3 : Int32} : lp_X7_storeGap_23 (ad J N M) x0 x1 x2 x3 = Option.map (ad0 J N) (lp_X7_storeGap_23 M x0 x1 x2 x3) := lp_om (φ := adS J N) (ψ := (ad0 J N)) (fun q => cm_bb_X7_storeGap_23) (fun a _ _ => ⟨a, rfl⟩) (M, x1, x2, x3)
theorem cm_b_X7_storeGap_0 {J : Nat → Nat → Int64} {N : Nat} {M : gMem} {x0 : Nat} : b_X7_storeGap_0 (ad J N M) x0 = Option.map (ad0 J N) (b_X7_storeGap_0 M x0) := by
  unfold b_X7_storeGap_0
  (simp only [ad_T, ad_L, ad_I, ad_R, ad_wI, ad_wR, ad_cp, om_ck, om_dr, om_bd, om_bx, om_if, om_oI, bd_om, bx_om, lw_S, Option.map_some, Option.map_none, Sum.map_inl, Sum.map_inr, ad0_e, adS_e, cm_lp_X7_storeGap_23]) <;> rfl
theorem cm_f_X7_storeGap {J : Nat → Nat → Int64} {N : Nat} {M : gMem} {x0 : Nat} : f_X7_storeGap (ad J N M) x0 = Option.map (ad0 J N) (f_X7_storeGap M x0) := by
  unfold f_X7_storeGap
  (simp only [ad_T, ad_L, ad_I, ad_R, ad_wI, ad_wR, ad_cp, om_ck, om_dr, om_bd, om_bx, om_if, om_oI, bd_om, bx_om, lw_S, Option.map_some, Option.map_none, Sum.map_inl, Sum.map_inr, ad0_e, adS_e, cm_b_X7_storeGap_0]) <;> rfl
theorem cm_bb_X7_drawLots_71 {J : Nat → Nat → Int64} {N : Nat} {M : gMem} {x0 : Nat} {x1 : Int32} {x2 : Int32} {x4 : Int32} : bb_X7_drawLots_71 (ad J N M) x0 x1 x2 x4 = Option.map (Sum.map (adS J N) (Sum.map (adS J N) (ad0 J N))) (bb_X7_drawLots_71 M x0 x1 x2 x4) := by
  unfold bb_X7_drawLots_71
  (simp only [ad_T, ad_L, ad_I, ad_R, ad_wI, ad_wR, ad_cp, om_ck, om_dr, om_bd, om_bx, om_if, om_oI, bd_om, bx_om, lw_S, Option.map_some, Option.map_none, Sum.map_inl, Sum.map_inr, ad0_e, adS_e]) <;> rfl
theorem cm_lp_X7_drawLots_71 {J : Nat → Nat → Int64} {N : Nat} {M : gMem} {x0 : Nat} {x1 : Int32} {x2 : Int32} {x4 : Int32} : lp_X7_drawLots_71 (ad J N M) x0 x1 x2 x4 = Option.map (Sum.map (adS J N) (ad0 J N)) (lp_X7_drawLots_71 M x0 x1 x2 x4) := lp_om (φ := adS J N) (ψ := (Sum.map (adS J N) (ad0 J N))) (fun q => cm_bb_X7_drawLots_71) (fun a _ _ => ⟨a, rfl⟩) (M, x4)
theorem cm_bb_X7_drawLots_33 {J : Nat → Nat → Int64} {N : Nat} {M : gMem} {x0 : Nat} {x1 : Int32} {x2 : Int32} : bb_X7_drawLots_33 (ad J N M) x0 x1 x2 = Option.map (Sum.map (adS J N) (ad0 J N)) (bb_X7_drawLots_33 M x0 x1 x2) := by
  unfold bb_X7_drawLots_33
  (simp only [ad_T, ad_L, ad_I, ad_R, ad_wI, ad_wR, ad_cp, om_ck, om_dr, om_bd, om_bx, om_if, om_oI, bd_om, bx_om, lw_S, Option.map_some, Option.map_none, Sum.map_inl, Sum.map_inr, ad0_e, adS_e, cm_lp_X7_drawLots_71]) <;> rfl
theorem cm_lp_X7_drawLots_33 {J : Nat → Nat → Int64} {N : Nat} {M : gMem} {x0 : Nat} {x1 : Int32} {x2 : Int32} : lp_X7_drawLots_33 (ad J N M) x0 x1 x2 = Option.map (ad0 J N) (lp_X7_drawLots_33 M x0 x1 x2) := lp_om (φ := adS J N) (ψ := (ad0 J N)) (fun q => cm_bb_X7_drawLots_33) (fun a _ _ => ⟨a, rfl⟩) (M, x1, x2)
theorem cm_bb_X7_drawLots_7 {J : Nat → Nat → Int64} {N : Nat} {M : gMem} {x0 : Nat} {x1 : Int32} {x2 : Int32} : bb_X7_drawLots_7 (ad J N M) x0 x1 x2 = Option.map (Sum.map (adS J N) (ad0 J N)) (bb_X7_drawLots_7 M x0 x1 x2) := by
  unfold bb_X7_drawLots_7
  (simp only [ad_T, ad_L, ad_I, ad_R, ad_wI, ad_wR, ad_cp, om_ck, om_dr, om_bd, om_bx, om_if, om_oI, bd_om, bx_om, lw_S, Option.map_some, Option.map_none, Sum.map_inl, Sum.map_inr, ad0_e, adS_e, cm_lp_X7_drawLots_33]) <;> rfl
theorem cm_lp_X7_drawLots_7 {J : Nat → Nat → Int64} {N : Nat} {M : gMem} {x0 : Nat} {x1 : Int32} {x2 : Int32} : lp_X7_drawLots_7 (ad J N M) x0 x1 x2 = Option.map (ad0 J N) (lp_X7_drawLots_7 M x0 x1 x2) := lp_om (φ := adS J N) (ψ := (ad0 J N)) (fun q => cm_bb_X7_drawLots_7) (fun a _ _ => ⟨a, rfl⟩) (M, x2)
theorem cm_b_X7_drawLots_0 {J : Nat → Nat → Int64} {N : Nat} {M : gMem} {x0 : Nat} : b_X7_drawLots_0 (ad J N M) x0 = Option.map (ad0 J N) (b_X7_drawLots_0 M x0) := by
  unfold b_X7_drawLots_0
  (simp only [ad_T, ad_L, ad_I, ad_R, ad_wI, ad_wR, ad_cp, om_ck, om_dr, om_bd, om_bx, om_if, om_oI, bd_om, bx_om, lw_S, Option.map_some, Option.map_none, Sum.map_inl, Sum.map_inr, ad0_e, adS_e, cm_lp_X7_drawLots_7]) <;> rfl
theorem cm_f_X7_drawLots {J : Nat → Nat → Int64} {N : Nat} {M : gMem} {x0 : Nat} : f_X7_drawLots (ad J N M) x0 = Option.map (ad0 J N) (f_X7_drawLots M x0) := by
  unfold f_X7_drawLots
  (simp only [ad_T, ad_L, ad_I, ad_R, ad_wI, ad_wR, ad_cp, om_ck, om_dr, om_bd, om_bx, om_if, om_oI, bd_om, bx_om, lw_S, Option.map_some, Option.map_none, Sum.map_inl, Sum.map_inr, ad0_e, adS_e, cm_b_X7_drawLots_0]) <;> rfl
theorem cm_bb_X7_callBoatsHome_2 {J : Nat → Nat → Int64} {N : Nat} {M : gMem} {x0 : Nat} {x1 : Int32} : bb_X7_callBoatsHome_2 (ad J N M) x0 x1 = Option.map (Sum.map (adS J N) (ad0 J N)) (bb_X7_callBoatsHome_2 M x0 x1) := by
  unfold bb_X7_callBoatsHome_2
  (simp only [ad_T, ad_L, ad_I, ad_R, ad_wI, ad_wR, ad_cp, om_ck, om_dr, om_bd, om_bx, om_if, om_oI, bd_om, bx_om, lw_S, Option.map_some, Option.map_none, Sum.map_inl, Sum.map_inr, ad0_e, adS_e]) <;> rfl
theorem cm_lp_X7_callBoatsHome_2 {J : Nat → Nat → Int64} {N : Nat} {M : gMem} {x0 : Nat} {x1 : Int32} : lp_X7_callBoatsHome_2 (ad J N M) x0 x1 = Option.map (ad0 J N) (lp_X7_callBoatsHome_2 M x0 x1) := lp_om (φ := adS J N) (ψ := (ad0 J N)) (fun q => cm_bb_X7_callBoatsHome_2) (fun a _ _ => ⟨a, rfl⟩) (M, x1)
theorem cm_b_X7_callBoatsHome_0 {J : Nat → Nat → Int64} {N : Nat} {M : gMem} {x0 : Nat} : b_X7_callBoatsHome_0 (ad J N M) x0 = Option.map (ad0 J N) (b_X7_callBoatsHome_0 M x0) := by
  unfold b_X7_callBoatsHome_0
  (simp only [ad_T, ad_L, ad_I, ad_R, ad_wI, ad_wR, ad_cp, om_ck, om_dr, om_bd, om_bx, om_if, om_oI, bd_om, bx_om, lw_S, Option.map_some, Option.map_none, Sum.map_inl, Sum.map_inr, ad0_e, adS_e, cm_lp_X7_callBoatsHome_2]) <;> rfl
theorem cm_f_X7_callBoatsHome {J : Nat → Nat → Int64} {N : Nat} {M : gMem} {x0 : Nat} : f_X7_callBoatsHome (ad J N M) x0 = Option.map (ad0 J N) (f_X7_callBoatsHome M x0) := by
  unfold f_X7_callBoatsHome
  (simp only [ad_T, ad_L, ad_I, ad_R, ad_wI, ad_wR, ad_cp, om_ck, om_dr, om_bd, om_bx, om_if, om_oI, bd_om, bx_om, lw_S, Option.map_some, Option.map_none, Sum.map_inl, Sum.map_inr, ad0_e, adS_e, cm_b_X7_callBoatsHome_0]) <;> rfl
theorem cm_b_X7_isSpared_82 {J : Nat → Nat → Int64} {N : Nat} {Z : Nat → Nat} {M : gMem} {x0 : Nat} {x1 : Int32} {x2 : Int32} {x3 : Int32} : b_X7_isSpared_82 Z (ad J N M) x0 x1 x2 x3 = Option.map (Sum.map (adS J N) (ad0 J N)) (b_X7_isSpared_82 Z M x0 x1 x2 x3) := by
  unfold b_X7_isSpared_82
  (simp only [ad_T, ad_L, ad_I, ad_R, ad_wI, ad_wR, ad_cp, om_ck, om_dr, om_bd, om_bx, om_if, om_oI, bd_om, bx_om, lw_S, Option.map_some, Option.map_none, Sum.map_inl, Sum.map_inr, ad0_e, adS_e]) <;> rfl
theorem cm_bb_X7_isSpared_16 {J : Nat → Nat → Int64} {N : Nat} {Z : Nat → Nat} {M : gMem} {x0 : Nat} {x1 : Int32} {x2 : Int32} {x3 : Int32} : bb_X7_isSpared_16 Z (ad J N M) x0 x1 x2 x3 = Option.map (Sum.map (adS J N) (ad0 J N)) (bb_X7_isSpared_16 Z M x0 x1 x2 x3) := by
  unfold bb_X7_isSpared_16
  (simp only [ad_T, ad_L, ad_I, ad_R, ad_wI, ad_wR, ad_cp, om_ck, om_dr, om_bd, om_bx, om_if, om_oI, bd_om, bx_om, lw_S, Option.map_some, Option.map_none, Sum.map_inl, Sum.map_inr, ad0_e, adS_e, cm_f_X5_has, cm_b_X7_isSpared_82, cm_f_X3_allFish, cm_f_X9_reckon]) <;> rfl
theorem cm_lp_X7_isSpared_16 {J : Nat → Nat → Int64} {N : Nat} {Z : Nat → Nat} {M : gMem} {x0 : Nat} {x1 : Int32} {x2 : Int32} {x3 : Int32} : lp_X7_isSpared_16 Z (ad J N M) x0 x1 x2 x3 = Option.map (ad0 J N) (lp_X7_isSpared_16 Z M x0 x1 x2 x3) := lp_om (φ := adS J N) (ψ := (ad0 J N)) (fun q => cm_bb_X7_isSpared_16) (fun a _ _ => ⟨a, rfl⟩) (M, x3)
theorem cm_b_X7_isSpared_0 {J : Nat → Nat → Int64} {N : Nat} {Z : Nat → Nat} {M : gMem} {x0 : Nat} {x1 : Int32} {x2 : Int32} : b_X7_isSpared_0 Z (ad J N M) x0 x1 x2 = Option.map (ad0 J N) (b_X7_isSpared_0 Z M x0 x1 x2) := by
  unfold b_X7_isSpared_0
  (simp only [ad_T, ad_L, ad_I, ad_R, ad_wI, ad_wR, ad_cp, om_ck, om_dr, om_bd, om_bx, om_if, om_oI, bd_om, bx_om, lw_S, Option.map_some, Option.map_none, Sum.map_inl, Sum.map_inr, ad0_e, adS_e, cm_lp_X7_isSpared_16]) <;> rfl
theorem cm_f_X7_isSpared {J : Nat → Nat → Int64} {N : Nat} {Z : Nat → Nat} {M : gMem} {x0 : Nat} {x1 : Int32} {x2 : Int32} : f_X7_isSpared Z (ad J N M) x0 x1 x2 = Option.map (ad0 J N) (f_X7_isSpared Z M x0 x1 x2) := by
  unfold f_X7_isSpared
  (simp only [ad_T, ad_L, ad_I, ad_R, ad_wI, ad_wR, ad_cp, om_ck, om_dr, om_bd, om_bx, om_if, om_oI, bd_om, bx_om, lw_S, Option.map_some, Option.map_none, Sum.map_inl, Sum.map_inr, ad0_e, adS_e, cm_b_X7_isSpared_0]) <;> rfl
theorem cm_b_X7_firstGo_114 {J : Nat → Nat → Int64} {N : Nat} {Z : Nat → Nat} {M : gMem} {x0 : Nat} {x1 : Int32} {x2 : Int32} : b_X7_firstGo_114 Z (ad J N M) x0 x1 x2 = Option.map (Sum.map (adS J N) (ad0 J N)) (b_X7_firstGo_114 Z M x0 x1 x2) := by
  unfold b_X7_firstGo_114
  (simp only [ad_T, ad_L, ad_I, ad_R, ad_wI, ad_wR, ad_cp, om_ck, om_dr, om_bd, om_bx, om_if, om_oI, bd_om, bx_om, lw_S, Option.map_some, Option.map_none, Sum.map_inl, Sum.map_inr, ad0_e, adS_e]) <;> rfl
theorem cm_b_X7_firstGo_90 {J : Nat → Nat → Int64} {N : Nat} {Z : Nat → Nat} {M : gMem} {x0 : Nat} {x1 : Int32} {x2 : Int32} {x3 : Option Nat} {s0 : Int32} : b_X7_firstGo_90 Z (ad J N M) x0 x1 x2 x3 s0 = Option.map (Sum.map (adS J N) (ad0 J N)) (b_X7_firstGo_90 Z M x0 x1 x2 x3 s0) := by
  unfold b_X7_firstGo_90
  (simp only [ad_T, ad_L, ad_I, ad_R, ad_wI, ad_wR, ad_cp, om_ck, om_dr, om_bd, om_bx, om_if, om_oI, bd_om, bx_om, lw_S, Option.map_some, Option.map_none, Sum.map_inl, Sum.map_inr, ad0_e, adS_e, cm_b_X7_firstGo_114, cm_f_X7_isSpared]) <;> rfl
theorem cm_b_X7_firstGo_85 {J : Nat → Nat → Int64} {N : Nat} {Z : Nat → Nat} {M : gMem} {x0 : Nat} {x1 : Int32} {x2 : Int32} {x3 : Option Nat} : b_X7_firstGo_85 Z (ad J N M) x0 x1 x2 x3 = Option.map (Sum.map (adS J N) (ad0 J N)) (b_X7_firstGo_85 Z M x0 x1 x2 x3) := by
  unfold b_X7_firstGo_85
  (simp only [ad_T, ad_L, ad_I, ad_R, ad_wI, ad_wR, ad_cp, om_ck, om_dr, om_bd, om_bx, om_if, om_oI, bd_om, bx_om, lw_S, Option.map_some, Option.map_none, Sum.map_inl, Sum.map_inr, ad0_e, adS_e, cm_b_X7_firstGo_90]) <;> rfl
theorem cm_bb_X7_firstGo_2 {J : Nat → Nat → Int64} {N : Nat} {Z : Nat → Nat} {M : gMem} {x0 : Nat} {x1 : Int32} {x2 : Int32} : bb_X7_firstGo_2 Z (ad J N M) x0 x1 x2 = Option.map (Sum.map (adS J N) (ad0 J N)) (bb_X7_firstGo_2 Z M x0 x1 x2) := by
  unfold bb_X7_firstGo_2
  (simp only [ad_T, ad_L, ad_I, ad_R, ad_wI, ad_wR, ad_cp, om_ck, om_dr, om_bd, om_bx, om_if, om_oI, bd_om, bx_om, lw_S, Option.map_some, Option.map_none, Sum.map_inl, Sum.map_inr, ad0_e, adS_e, cm_b_X7_firstGo_85, cm_f_X9_reckon, cm_b_X7_firstGo_90, cm_b_X7_firstGo_114]) <;> rfl
theorem cm_lp_X7_firstGo_2 {J : Nat → Nat → Int64} {N : Nat} {Z : Nat → Nat} {M : gMem} {x0 : Nat} {x1 : Int32} {x2 : Int32} : lp_X7_firstGo_2 Z (ad J N M) x0 x1 x2 = Option.map (ad0 J N) (lp_X7_firstGo_2 Z M x0 x1 x2) := lp_om (φ := adS J N) (ψ := (ad0 J N)) (fun q => cm_bb_X7_firstGo_2) (fun a _ _ => ⟨a, rfl⟩) (M, x2)
theorem cm_b_X7_firstGo_0 {J : Nat → Nat → Int64} {N : Nat} {Z : Nat → Nat} {M : gMem} {x0 : Nat} {x1 : Int32} : b_X7_firstGo_0 Z (ad J N M) x0 x1 = Option.map (ad0 J N) (b_X7_firstGo_0 Z M x0 x1) := by
  unfold b_X7_firstGo_0
  (simp only [ad_T, ad_L, ad_I, ad_R, ad_wI, ad_wR, ad_cp, om_ck, om_dr, om_bd, om_bx, om_if, om_oI, bd_om, bx_om, lw_S, Option.map_some, Option.map_none, Sum.map_inl, Sum.map_inr, ad0_e, adS_e, cm_lp_X7_firstGo_2]) <;> rfl
theorem cm_f_X7_firstGo {J : Nat → Nat → Int64} {N : Nat} {Z : Nat → Nat} {M : gMem} {x0 : Nat} {x1 : Int32} : f_X7_firstGo Z (ad J N M) x0 x1 = Option.map (ad0 J N) (f_X7_firstGo Z M x0 x1) := by
  unfold f_X7_firstGo
  (simp only [ad_T, ad_L, ad_I, ad_R, ad_wI, ad_wR, ad_cp, om_ck, om_dr, om_bd, om_bx, om_if, om_oI, bd_om, bx_om, lw_S, Option.map_some, Option.map_none, Sum.map_inl, Sum.map_inr, ad0_e, adS_e, cm_b_X7_firstGo_0]) <;> rfl
theorem cm_b_X7_haulFrom_148 {J : Nat → Nat → Int64} {N : Nat} {M : gMem} : b_X7_haulFrom_148 (ad J N M) = Option.map (ad0 J N) (b_X7_haulFrom_148 M) := by
  unfold b_X7_haulFrom_148
  (simp only [ad_T, ad_L, ad_I, ad_R, ad_wI, ad_wR, ad_cp, om_ck, om_dr, om_bd, om_bx, om_if, om_oI, bd_om, bx_om, lw_S, Option.map_some, Option.map_none, Sum.map_inl, Sum.map_inr, ad0_e, adS_e]) <;> rfl
theorem cm_b_X7_haulFrom_133 {J : Nat → Nat → Int64} {N : Nat} {M : gMem} {x0 : Nat} {x1 : Option Nat} {x2 : Option Nat} {x3 : Int32} {x4 : Int32} {x5 : Int32} {x6 : Int32} {x7 : Int32} : b_X7_haulFrom_133 (ad J N M) x0 x1 x2 x3 x4 x5 x6 x7 = Option.map (Sum.map (adS J N) (ad0 J N)) (b_X7_haulFrom_133 M x0 x1 x2 x3 x4 x5 x6 x7) := by
  unfold b_X7_haulFrom_133
  (simp only [ad_T, ad_L, ad_I, ad_R, ad_wI, ad_wR, ad_cp, om_ck, om_dr, om_bd, om_bx, om_if, om_oI, bd_om, bx_om, lw_S, Option.map_some, Option.map_none, Sum.map_inl, Sum.map_inr, ad0_e, adS_e]) <;> rfl
theorem cm_b_X7_haulFrom_105 {J : Nat → Nat → Int64} {N : Nat} {M : gMem} {x0 : Nat} {x1 : Option Nat} {x2 : Option Nat} {x3 : Int32} {x4 : Int32} {x5 : Int32} {x6 : Int32} {x7 : Int32} {s0 : Option Nat} {s1 : Int32} {s2 : Int32} : b_X7_haulFrom_105 (ad J N M) x0 x1 x2 x3 x4 x5 x6 x7 s0 s1 s2 = Option.map (Sum.map (adS J N) (ad0 J N)) (b_X7_haulFrom_105 M x0 x1 x2 x3 x4 x5 x6 x7 s0 s1 s2) := by
  unfold b_X7_haulFrom_105
  (simp only [ad_T, ad_L, ad_I, ad_R, ad_wI, ad_wR, ad_cp, om_ck, om_dr, om_bd, om_bx, om_if, om_oI, bd_om, bx_om, lw_S, Option.map_some, Option.map_none, Sum.map_inl, Sum.map_inr, ad0_e, adS_e, cm_b_X7_haulFrom_133]) <;> rfl
theorem cm_b_X7_haulFrom_85 {J : Nat → Nat → Int64} {N : Nat} {M : gMem} {x0 : Nat} {x1 : Option Nat} {x2 : Option Nat} {x3 : Int32} {x4 : Int32} {x5 : Int32} {x7 : Int32} {x8 : Int32} {x9 : Int32} {s0 : Int32} : b_X7_haulFrom_85 (ad J N M) x0 x1 x2 x3 x4 x5 x7 x8 x9 s0 = Option.map (Sum.map (adS J N) (ad0 J N)) (b_X7_haulFrom_85 M x0 x1 x2 x3 x4 x5 x7 x8 x9 s0) := by
  unfold b_X7_haulFrom_85
  (simp only [ad_T, ad_L, ad_I, ad_R, ad_wI, ad_wR, ad_cp, om_ck, om_dr, om_bd, om_bx, om_if, om_oI, bd_om, bx_om, lw_S, Option.map_some, Option.map_none, Sum.map_inl, Sum.map_inr, ad0_e, adS_e, cm_b_X7_haulFrom_105]) <;> rfl
theorem cm_bb_X7_haulFrom_17 {J : Nat → Nat → Int64} {N : Nat} {M : gMem} {x0 : Nat} {x1 : Option Nat} {x2 : Option Nat} {x3 : Int32} {x4 : Int32} {x5 : Int32} {x6 : Int32} {x7 : Int32} : bb_X7_haulFrom_17 (ad J N M) x0 x1 x2 x3 x4 x5 x6 x7 = Option.map (Sum.map (adS J N) (ad0 J N)) (bb_X7_haulFrom_17 M x0 x1 x2 x3 x4 x5 x6 x7) := by
  unfold bb_X7_haulFrom_17
  (simp only [ad_T, ad_L, ad_I, ad_R, ad_wI, ad_wR, ad_cp, om_ck, om_dr, om_bd, om_bx, om_if, om_oI, bd_om, bx_om, lw_S, Option.map_some, Option.map_none, Sum.map_inl, Sum.map_inr, ad0_e, adS_e, cm_b_X7_haulFrom_148, cm_f_X1_tear, cm_b_X7_haulFrom_133, cm_b_X7_haulFrom_85]) <;> rfl
theorem cm_lp_X7_haulFrom_17 {J : Nat → Nat → Int64} {N : Nat} {M : gMem} {x0 : Nat} {x1 : Option Nat} {x2 : Option Nat} {x3 : Int32} {x4 : Int32} {x5 : Int32} {x6 : Int32} {x7 : Int32} : lp_X7_haulFrom_17 (ad J N M) x0 x1 x2 x3 x4 x5 x6 x7 = Option.map (ad0 J N) (lp_X7_haulFrom_17 M x0 x1 x2 x3 x4 x5 x6 x7) := lp_om (φ := adS J N) (ψ := (ad0 J N)) (fun q => cm_bb_X7_haulFrom_17) (fun a _ _ => ⟨a, rfl⟩) (M, x4, x5, x6, x7)
theorem cm_b_X7_haulFrom_0 {J : Nat → Nat → Int64} {N : Nat} {M : gMem} {x0 : Nat} {x1 : Option Nat} {x2 : Option Nat} : b_X7_haulFrom_0 (ad J N M) x0 x1 x2 = Option.map (ad0 J N) (b_X7_haulFrom_0 M x0 x1 x2) := by
  unfold b_X7_haulFrom_0
  (simp only [ad_T, ad_L, ad_I, ad_R, ad_wI, ad_wR, ad_cp, om_ck, om_dr, om_bd, om_bx, om_if, om_oI, bd_om, bx_om, lw_S, Option.map_some, Option.map_none, Sum.map_inl, Sum.map_inr, ad0_e, adS_e, cm_lp_X7_haulFrom_17]) <;> rfl
theorem cm_f_X7_haulFrom {J : Nat → Nat → Int64} {N : Nat} {M : gMem} {x0 : Nat} {x1 : Option Nat} {x2 : Option Nat} : f_X7_haulFrom (ad J N M) x0 x1 x2 = Option.map (ad0 J N) (f_X7_haulFrom M x0 x1 x2) := by
  unfold f_X7_haulFrom
  (simp only [ad_T, ad_L, ad_I, ad_R, ad_wI, ad_wR, ad_cp, om_ck, om_dr, om_bd, om_bx, om_if, om_oI, bd_om, bx_om, lw_S, Option.map_some, Option.map_none, Sum.map_inl, Sum.map_inr, ad0_e, adS_e, cm_b_X7_haulFrom_0]) <;> rfl
theorem cm_b_X7_landHaul_66 {J : Nat → Nat → Int64} {N : Nat} {M : gMem} {x0 : Nat} {x1 : Option Nat} {x2 : Option Nat} {x3 : Int32} {x4 : Int32} : b_X7_landHaul_66 (ad J N M) x0 x1 x2 x3 x4 = Option.map (Sum.map (adS J N) (ad0 J N)) (b_X7_landHaul_66 M x0 x1 x2 x3 x4) := by
  unfold b_X7_landHaul_66
  (simp only [ad_T, ad_L, ad_I, ad_R, ad_wI, ad_wR, ad_cp, om_ck, om_dr, om_bd, om_bx, om_if, om_oI, bd_om, bx_om, lw_S, Option.map_some, Option.map_none, Sum.map_inl, Sum.map_inr, ad0_e, adS_e]) <;> rfl
theorem cm_bb_X7_landHaul_5 {J : Nat → Nat → Int64} {N : Nat} {M : gMem} {x0 : Nat} {x1 : Option Nat} {x2 : Option Nat} {x3 : Int32} {x4 : Int32} : bb_X7_landHaul_5 (ad J N M) x0 x1 x2 x3 x4 = Option.map (Sum.map (adS J N) (ad0 J N)) (bb_X7_landHaul_5 M x0 x1 x2 x3 x4) := by
  unfold bb_X7_landHaul_5
  (simp only [ad_T, ad_L, ad_I, ad_R, ad_wI, ad_wR, ad_cp, om_ck, om_dr, om_bd, om_bx, om_if, om_oI, bd_om, bx_om, lw_S, Option.map_some, Option.map_none, Sum.map_inl, Sum.map_inr, ad0_e, adS_e, cm_b_X7_landHaul_66]) <;> rfl
theorem cm_lp_X7_landHaul_5 {J : Nat → Nat → Int64} {N : Nat} {M : gMem} {x0 : Nat} {x1 : Option Nat} {x2 : Option Nat} {x3 : Int32} {x4 : Int32} : lp_X7_landHaul_5 (ad J N M) x0 x1 x2 x3 x4 = Option.map (ad0 J N) (lp_X7_landHaul_5 M x0 x1 x2 x3 x4) := lp_om (φ := adS J N) (ψ := (ad0 J N)) (fun q => cm_bb_X7_landHaul_5) (fun a _ _ => ⟨a, rfl⟩) (M, x3, x4)
theorem cm_b_X7_landHaul_0 {J : Nat → Nat → Int64} {N : Nat} {M : gMem} {x0 : Nat} {x1 : Option Nat} {x2 : Option Nat} : b_X7_landHaul_0 (ad J N M) x0 x1 x2 = Option.map (ad0 J N) (b_X7_landHaul_0 M x0 x1 x2) := by
  unfold b_X7_landHaul_0
  (simp only [ad_T, ad_L, ad_I, ad_R, ad_wI, ad_wR, ad_cp, om_ck, om_dr, om_bd, om_bx, om_if, om_oI, bd_om, bx_om, lw_S, Option.map_some, Option.map_none, Sum.map_inl, Sum.map_inr, ad0_e, adS_e, cm_lp_X7_landHaul_5]) <;> rfl
theorem cm_f_X7_landHaul {J : Nat → Nat → Int64} {N : Nat} {M : gMem} {x0 : Nat} {x1 : Option Nat} {x2 : Option Nat} : f_X7_landHaul (ad J N M) x0 x1 x2 = Option.map (ad0 J N) (f_X7_landHaul M x0 x1 x2) := by
  unfold f_X7_landHaul
  (simp only [ad_T, ad_L, ad_I, ad_R, ad_wI, ad_wR, ad_cp, om_ck, om_dr, om_bd, om_bx, om_if, om_oI, bd_om, bx_om, lw_S, Option.map_some, Option.map_none, Sum.map_inl, Sum.map_inr, ad0_e, adS_e, cm_b_X7_landHaul_0]) <;> rfl
theorem cm_b_X7_sail_67 {J : Nat → Nat → Int64} {N : Nat} {M : gMem} : b_X7_sail_67 (ad J N M) = Option.map (ad0 J N) (b_X7_sail_67 M) := by
  unfold b_X7_sail_67
  (simp only [ad_T, ad_L, ad_I, ad_R, ad_wI, ad_wR, ad_cp, om_ck, om_dr, om_bd, om_bx, om_if, om_oI, bd_om, bx_om, lw_S, Option.map_some, Option.map_none, Sum.map_inl, Sum.map_inr, ad0_e, adS_e]) <;> rfl
theorem cm_b_X7_sail_0 {J : Nat → Nat → Int64} {N : Nat} {M : gMem} {x0 : Nat} {x1 : Int32} {x2 : Int32} : b_X7_sail_0 (ad J N M) x0 x1 x2 = Option.map (ad0 J N) (b_X7_sail_0 M x0 x1 x2) := by
  unfold b_X7_sail_0
  (simp only [ad_T, ad_L, ad_I, ad_R, ad_wI, ad_wR, ad_cp, om_ck, om_dr, om_bd, om_bx, om_if, om_oI, bd_om, bx_om, lw_S, Option.map_some, Option.map_none, Sum.map_inl, Sum.map_inr, ad0_e, adS_e, cm_b_X7_sail_67, cm_f_X7_haulFrom, cm_f_X7_landHaul]) <;> rfl
theorem cm_f_X7_sail {J : Nat → Nat → Int64} {N : Nat} {M : gMem} {x0 : Nat} {x1 : Int32} {x2 : Int32} : f_X7_sail (ad J N M) x0 x1 x2 = Option.map (ad0 J N) (f_X7_sail M x0 x1 x2) := by
  unfold f_X7_sail
  (simp only [ad_T, ad_L, ad_I, ad_R, ad_wI, ad_wR, ad_cp, om_ck, om_dr, om_bd, om_bx, om_if, om_oI, bd_om, bx_om, lw_S, Option.map_some, Option.map_none, Sum.map_inl, Sum.map_inr, ad0_e, adS_e, cm_b_X7_sail_0]) <;> rfl
theorem cm_b_X7_split_212 {J : Nat → Nat → Int64} {N : Nat} {M : gMem} {s0 : Option Nat} {s1 : Int32} {s2 : Int32} : b_X7_split_212 (ad J N M) s0 s1 s2 = Option.map (ad0 J N) (b_X7_split_212 M s0 s1 s2) := by
  unfold b_X7_split_212
  (simp only [ad_T, ad_L, ad_I, ad_R, ad_wI, ad_wR, ad_cp, om_ck, om_dr, om_bd, om_bx, om_if, om_oI, bd_om, bx_om, lw_S, Option.map_some, Option.map_none, Sum.map_inl, Sum.map_inr, ad0_e, adS_e]) <;> rfl
theorem cm_bb_X7_split_113 {J : Nat → Nat → Int64} {N : Nat} {M : gMem} {x0 : Nat} {x1 : Option Nat} {x2 : Int32} {x3 : Int32} {x4 : Int32} {x5 : Int32} : bb_X7_split_113 (ad J N M) x0 x1 x2 x3 x4 x5 = Option.map (Sum.map (adS J N) (ad0 J N)) (bb_X7_split_113 M x0 x1 x2 x3 x4 x5) := by
  unfold bb_X7_split_113
  (simp only [ad_T, ad_L, ad_I, ad_R, ad_wI, ad_wR, ad_cp, om_ck, om_dr, om_bd, om_bx, om_if, om_oI, bd_om, bx_om, lw_S, Option.map_some, Option.map_none, Sum.map_inl, Sum.map_inr, ad0_e, adS_e, cm_b_X7_split_212]) <;> rfl
theorem cm_lp_X7_split_113 {J : Nat → Nat → Int64} {N : Nat} {M : gMem} {x0 : Nat} {x1 : Option Nat} {x2 : Int32} {x3 : Int32} {x4 : Int32} {x5 : Int32} : lp_X7_split_113 (ad J N M) x0 x1 x2 x3 x4 x5 = Option.map (ad0 J N) (lp_X7_split_113 M x0 x1 x2 x3 x4 x5) := lp_om (φ := adS J N) (ψ := (ad0 J N)) (fun q => cm_bb_X7_split_113) (fun a _ _ => ⟨a, rfl⟩) (M, x5)
theorem cm_b_X7_split_69 {J : Nat → Nat → Int64} {N : Nat} {M : gMem} {x0 : Nat} {x1 : Option Nat} {x2 : Int32} {x3 : Int32} {x4 : Int32} {x5 : Option Nat} {s0 : Int32} : b_X7_split_69 (ad J N M) x0 x1 x2 x3 x4 x5 s0 = Option.map (Sum.map (adS J N) (ad0 J N)) (b_X7_split_69 M x0 x1 x2 x3 x4 x5 s0) := by
  unfold b_X7_split_69
  (simp only [ad_T, ad_L, ad_I, ad_R, ad_wI, ad_wR, ad_cp, om_ck, om_dr, om_bd, om_bx, om_if, om_oI, bd_om, bx_om, lw_S, Option.map_some, Option.map_none, Sum.map_inl, Sum.map_inr, ad0_e, adS_e]) <;> rfl
theorem cm_bb_X7_split_23 {J : Nat → Nat → Int64} {N : Nat} {M : gMem} {x0 : Nat} {x1 : Option Nat} {x2 : Int32} {x3 : Int32} {x4 : Int32} : bb_X7_split_23 (ad J N M) x0 x1 x2 x3 x4 = Option.map (Sum.map (adS J N) (ad0 J N)) (bb_X7_split_23 M x0 x1 x2 x3 x4) := by
  unfold bb_X7_split_23
  (simp only [ad_T, ad_L, ad_I, ad_R, ad_wI, ad_wR, ad_cp, om_ck, om_dr, om_bd, om_bx, om_if, om_oI, bd_om, bx_om, lw_S, Option.map_some, Option.map_none, Sum.map_inl, Sum.map_inr, ad0_e, adS_e, cm_lp_X7_split_113, cm_b_X7_split_69]) <;> rfl
theorem cm_lp_X7_split_23 {J : Nat → Nat → Int64} {N : Nat} {M : gMem} {x0 : Nat} {x1 : Option Nat} {x2 : Int32} {x3 : Int32} {x4 : Int32} : lp_X7_split_23 (ad J N M) x0 x1 x2 x3 x4 = Option.map (ad0 J N) (lp_X7_split_23 M x0 x1 x2 x3 x4) := lp_om (φ := adS J N) (ψ := (ad0 J N)) (fun q => cm_bb_X7_split_23) (fun a _ _ => ⟨a, rfl⟩) (M, x2, x3, x4)
theorem cm_b_X7_split_15 {J : Nat → Nat → Int64} {N : Nat} {M : gMem} : b_X7_split_15 (ad J N M) = Option.map (ad0 J N) (b_X7_split_15 M) := by
  unfold b_X7_split_15
  (simp only [ad_T, ad_L, ad_I, ad_R, ad_wI, ad_wR, ad_cp, om_ck, om_dr, om_bd, om_bx, om_if, om_oI, bd_om, bx_om, lw_S, Option.map_some, Option.map_none, Sum.map_inl, Sum.map_inr, ad0_e, adS_e]) <;> rfl
theorem cm_b_X7_split_0 {J : Nat → Nat → Int64} {N : Nat} {M : gMem} {x0 : Nat} {x1 : Option Nat} : b_X7_split_0 (ad J N M) x0 x1 = Option.map (ad0 J N) (b_X7_split_0 M x0 x1) := by
  unfold b_X7_split_0
  (simp only [ad_T, ad_L, ad_I, ad_R, ad_wI, ad_wR, ad_cp, om_ck, om_dr, om_bd, om_bx, om_if, om_oI, bd_om, bx_om, lw_S, Option.map_some, Option.map_none, Sum.map_inl, Sum.map_inr, ad0_e, adS_e, cm_f_X5_splits, cm_b_X7_split_15, cm_lp_X7_split_23]) <;> rfl
theorem cm_f_X7_split {J : Nat → Nat → Int64} {N : Nat} {M : gMem} {x0 : Nat} {x1 : Option Nat} : f_X7_split (ad J N M) x0 x1 = Option.map (ad0 J N) (f_X7_split M x0 x1) := by
  unfold f_X7_split
  (simp only [ad_T, ad_L, ad_I, ad_R, ad_wI, ad_wR, ad_cp, om_ck, om_dr, om_bd, om_bx, om_if, om_oI, bd_om, bx_om, lw_S, Option.map_some, Option.map_none, Sum.map_inl, Sum.map_inr, ad0_e, adS_e, cm_b_X7_split_0]) <;> rfl
theorem cm_bb_X7_storeCatches_4 {J : Nat → Nat → Int64} {N : Nat} {M : gMem} {x0 : Nat} {x1 : Int32} {x2 : Int32} : bb_X7_storeCatches_4 (ad J N M) x0 x1 x2 = Option.map (Sum.map (adS J N) (ad0 J N)) (bb_X7_storeCatches_4 M x0 x1 x2) := by
  unfold bb_X7_storeCatches_4
  (simp only [ad_T, ad_L, ad_I, ad_R, ad_wI, ad_wR, ad_cp, om_ck, om_dr, om_bd, om_bx, om_if, om_oI, bd_om, bx_om, lw_S, Option.map_some, Option.map_none, Sum.map_inl, Sum.map_inr, ad0_e, adS_e]) <;> rfl
theorem cm_lp_X7_storeCatches_4 {J : Nat → Nat → Int64} {N : Nat} {M : gMem} {x0 : Nat} {x1 : Int32} {x2 : Int32} : lp_X7_storeCatches_4 (ad J N M) x0 x1 x2 = Option.map (ad0 J N) (lp_X7_storeCatches_4 M x0 x1 x2) := lp_om (φ := adS J N) (ψ := (ad0 J N)) (fun q => cm_bb_X7_storeCatches_4) (fun a _ _ => ⟨a, rfl⟩) (M, x1, x2)
theorem cm_b_X7_storeCatches_0 {J : Nat → Nat → Int64} {N : Nat} {M : gMem} {x0 : Nat} : b_X7_storeCatches_0 (ad J N M) x0 = Option.map (ad0 J N) (b_X7_storeCatches_0 M x0) := by
  unfold b_X7_storeCatches_0
  (simp only [ad_T, ad_L, ad_I, ad_R, ad_wI, ad_wR, ad_cp, om_ck, om_dr, om_bd, om_bx, om_if, om_oI, bd_om, bx_om, lw_S, Option.map_some, Option.map_none, Sum.map_inl, Sum.map_inr, ad0_e, adS_e, cm_lp_X7_storeCatches_4]) <;> rfl
theorem cm_f_X7_storeCatches {J : Nat → Nat → Int64} {N : Nat} {M : gMem} {x0 : Nat} : f_X7_storeCatches (ad J N M) x0 = Option.map (ad0 J N) (f_X7_storeCatches M x0) := by
  unfold f_X7_storeCatches
  (simp only [ad_T, ad_L, ad_I, ad_R, ad_wI, ad_wR, ad_cp, om_ck, om_dr, om_bd, om_bx, om_if, om_oI, bd_om, bx_om, lw_S, Option.map_some, Option.map_none, Sum.map_inl, Sum.map_inr, ad0_e, adS_e, cm_b_X7_storeCatches_0]) <;> rfl
theorem cm_bb_X7_passTides_100 {J : Nat → Nat → Int64} {N : Nat} {Z : Nat → Nat} {M : gMem} {x0 : Nat} {x1 : Int32} {x2 : Int32} {x3 : Int32} {x4 : Int32} : bb_X7_passTides_100 Z (ad J N M) x0 x1 x2 x3 x4 = Option.map (Sum.map (adS J N) (Sum.map (adS J N) (ad0 J N))) (bb_X7_passTides_100 Z M x0 x1 x2 x3 x4) := by
  unfold bb_X7_passTides_100
  (simp only [ad_T, ad_L, ad_I, ad_R, ad_wI, ad_wR, ad_cp, om_ck, om_dr, om_bd, om_bx, om_if, om_oI, bd_om, bx_om, lw_S, Option.map_some, Option.map_none, Sum.map_inl, Sum.map_inr, ad0_e, adS_e, cm_f_X3_grow]) <;> rfl
theorem cm_lp_X7_passTides_100 {J : Nat → Nat → Int64} {N : Nat} {Z : Nat → Nat} {M : gMem} {x0 : Nat} {x1 : Int32} {x2 : Int32} {x3 : Int32} {x4 : Int32} : lp_X7_passTides_100 Z (ad J N M) x0 x1 x2 x3 x4 = Option.map (Sum.map (adS J N) (ad0 J N)) (lp_X7_passTides_100 Z M x0 x1 x2 x3 x4) := lp_om (φ := adS J N) (ψ := (Sum.map (adS J N) (ad0 J N))) (fun q => cm_bb_X7_passTides_100) (fun a _ _ => ⟨a, rfl⟩) (M, x4)
theorem cm_bb_X7_passTides_64 {J : Nat → Nat → Int64} {N : Nat} {Z : Nat → Nat} {M : gMem} {x0 : Nat} {x1 : Int32} {x2 : Int32} {x3 : Int32} {x4 : Int32} : bb_X7_passTides_64 Z (ad J N M) x0 x1 x2 x3 x4 = Option.map (Sum.map (adS J N) (Sum.map (adS J N) (ad0 J N))) (bb_X7_passTides_64 Z M x0 x1 x2 x3 x4) := by
  unfold bb_X7_passTides_64
  (simp only [ad_T, ad_L, ad_I, ad_R, ad_wI, ad_wR, ad_cp, om_ck, om_dr, om_bd, om_bx, om_if, om_oI, bd_om, bx_om, lw_S, Option.map_some, Option.map_none, Sum.map_inl, Sum.map_inr, ad0_e, adS_e, cm_f_X7_storeCatches, cm_lp_X7_passTides_100, cm_f_X7_split]) <;> rfl
theorem cm_lp_X7_passTides_64 {J : Nat → Nat → Int64} {N : Nat} {Z : Nat → Nat} {M : gMem} {x0 : Nat} {x1 : Int32} {x2 : Int32} {x3 : Int32} {x4 : Int32} : lp_X7_passTides_64 Z (ad J N M) x0 x1 x2 x3 x4 = Option.map (Sum.map (adS J N) (ad0 J N)) (lp_X7_passTides_64 Z M x0 x1 x2 x3 x4) := lp_om (φ := adS J N) (ψ := (Sum.map (adS J N) (ad0 J N))) (fun q => cm_bb_X7_passTides_64) (fun a _ _ => ⟨a, rfl⟩) (M, x4)
theorem cm_bb_X7_passTides_24 {J : Nat → Nat → Int64} {N : Nat} {Z : Nat → Nat} {M : gMem} {x0 : Nat} {x1 : Int32} {x2 : Int32} {x3 : Int32} {x4 : Int32} : bb_X7_passTides_24 Z (ad J N M) x0 x1 x2 x3 x4 = Option.map (Sum.map (adS J N) (Sum.map (adS J N) (ad0 J N))) (bb_X7_passTides_24 Z M x0 x1 x2 x3 x4) := by
  unfold bb_X7_passTides_24
  (simp only [ad_T, ad_L, ad_I, ad_R, ad_wI, ad_wR, ad_cp, om_ck, om_dr, om_bd, om_bx, om_if, om_oI, bd_om, bx_om, lw_S, Option.map_some, Option.map_none, Sum.map_inl, Sum.map_inr, ad0_e, adS_e, cm_lp_X7_passTides_64, cm_f_X7_firstGo, cm_f_X7_sail]) <;> rfl
theorem cm_lp_X7_passTides_24 {J : Nat → Nat → Int64} {N : Nat} {Z : Nat → Nat} {M : gMem} {x0 : Nat} {x1 : Int32} {x2 : Int32} {x3 : Int32} {x4 : Int32} : lp_X7_passTides_24 Z (ad J N M) x0 x1 x2 x3 x4 = Option.map (Sum.map (adS J N) (ad0 J N)) (lp_X7_passTides_24 Z M x0 x1 x2 x3 x4) := lp_om (φ := adS J N) (ψ := (Sum.map (adS J N) (ad0 J N))) (fun q => cm_bb_X7_passTides_24) (fun a _ _ => ⟨a, rfl⟩) (M, x4)
theorem cm_bb_X7_passTides_4 {J : Nat → Nat → Int64} {N : Nat} {Z : Nat → Nat} {M : gMem} {x0 : Nat} {x1 : Int32} {x2 : Int32} {x3 : Int32} : bb_X7_passTides_4 Z (ad J N M) x0 x1 x2 x3 = Option.map (Sum.map (adS J N) (ad0 J N)) (bb_X7_passTides_4 Z M x0 x1 x2 x3) := by
  unfold bb_X7_passTides_4
  (simp only [ad_T, ad_L, ad_I, ad_R, ad_wI, ad_wR, ad_cp, om_ck, om_dr, om_bd, om_bx, om_if, om_oI, bd_om, bx_om, lw_S, Option.map_some, Option.map_none, Sum.map_inl, Sum.map_inr, ad0_e, adS_e, cm_f_X7_drawLots, cm_f_X7_callBoatsHome, cm_lp_X7_passTides_24]) <;> rfl
theorem cm_lp_X7_passTides_4 {J : Nat → Nat → Int64} {N : Nat} {Z : Nat → Nat} {M : gMem} {x0 : Nat} {x1 : Int32} {x2 : Int32} {x3 : Int32} : lp_X7_passTides_4 Z (ad J N M) x0 x1 x2 x3 = Option.map (ad0 J N) (lp_X7_passTides_4 Z M x0 x1 x2 x3) := lp_om (φ := adS J N) (ψ := (ad0 J N)) (fun q => cm_bb_X7_passTides_4) (fun a _ _ => ⟨a, rfl⟩) (M, x2, x3)
theorem cm_b_X7_passTides_0 {J : Nat → Nat → Int64} {N : Nat} {Z : Nat → Nat} {M : gMem} {x0 : Nat} {x1 : Int32} : b_X7_passTides_0 Z (ad J N M) x0 x1 = Option.map (ad0 J N) (b_X7_passTides_0 Z M x0 x1) := by
  unfold b_X7_passTides_0
  (simp only [ad_T, ad_L, ad_I, ad_R, ad_wI, ad_wR, ad_cp, om_ck, om_dr, om_bd, om_bx, om_if, om_oI, bd_om, bx_om, lw_S, Option.map_some, Option.map_none, Sum.map_inl, Sum.map_inr, ad0_e, adS_e, cm_lp_X7_passTides_4]) <;> rfl
theorem cm_f_X7_passTides {J : Nat → Nat → Int64} {N : Nat} {Z : Nat → Nat} {M : gMem} {x0 : Nat} {x1 : Int32} : f_X7_passTides Z (ad J N M) x0 x1 = Option.map (ad0 J N) (f_X7_passTides Z M x0 x1) := by
  unfold f_X7_passTides
  (simp only [ad_T, ad_L, ad_I, ad_R, ad_wI, ad_wR, ad_cp, om_ck, om_dr, om_bd, om_bx, om_if, om_oI, bd_om, bx_om, lw_S, Option.map_some, Option.map_none, Sum.map_inl, Sum.map_inr, ad0_e, adS_e, cm_b_X7_passTides_0]) <;> rfl
theorem cm_b_X10_append_42 {J : Nat → Nat → Int64} {N : Nat} {M : gMem} {x0 : Nat} {x1 : Int32} {x2 : Int32} : b_X10_append_42 (ad J N M) x0 x1 x2 = Option.map (Sum.map (adS J N) (ad0 J N)) (b_X10_append_42 M x0 x1 x2) := by
  unfold b_X10_append_42
  (simp only [ad_T, ad_L, ad_I, ad_R, ad_wI, ad_wR, ad_cp, om_ck, om_dr, om_bd, om_bx, om_if, om_oI, bd_om, bx_om, lw_S, Option.map_some, Option.map_none, Sum.map_inl, Sum.map_inr, ad0_e, adS_e]) <;> rfl
theorem cm_bb_X10_append_3 {J : Nat → Nat → Int64} {N : Nat} {M : gMem} {x0 : Nat} {x1 : Int32} {x2 : Int32} : bb_X10_append_3 (ad J N M) x0 x1 x2 = Option.map (Sum.map (adS J N) (ad0 J N)) (bb_X10_append_3 M x0 x1 x2) := by
  unfold bb_X10_append_3
  (simp only [ad_T, ad_L, ad_I, ad_R, ad_wI, ad_wR, ad_cp, om_ck, om_dr, om_bd, om_bx, om_if, om_oI, bd_om, bx_om, lw_S, Option.map_some, Option.map_none, Sum.map_inl, Sum.map_inr, ad0_e, adS_e, cm_b_X10_append_42]) <;> rfl
theorem cm_lp_X10_append_3 {J : Nat → Nat → Int64} {N : Nat} {M : gMem} {x0 : Nat} {x1 : Int32} {x2 : Int32} : lp_X10_append_3 (ad J N M) x0 x1 x2 = Option.map (ad0 J N) (lp_X10_append_3 M x0 x1 x2) := lp_om (φ := adS J N) (ψ := (ad0 J N)) (fun q => cm_bb_X10_append_3) (fun a _ _ => ⟨a, rfl⟩) (M, x2)
theorem cm_b_X10_append_0 {J : Nat → Nat → Int64} {N : Nat} {M : gMem} {x0 : Nat} {x1 : Int32} : b_X10_append_0 (ad J N M) x0 x1 = Option.map (ad0 J N) (b_X10_append_0 M x0 x1) := by
  unfold b_X10_append_0
  (simp only [ad_T, ad_L, ad_I, ad_R, ad_wI, ad_wR, ad_cp, om_ck, om_dr, om_bd, om_bx, om_if, om_oI, bd_om, bx_om, lw_S, Option.map_some, Option.map_none, Sum.map_inl, Sum.map_inr, ad0_e, adS_e, cm_lp_X10_append_3]) <;> rfl
theorem cm_f_X10_append {J : Nat → Nat → Int64} {N : Nat} {M : gMem} {x0 : Nat} {x1 : Int32} : f_X10_append (ad J N M) x0 x1 = Option.map (ad0 J N) (f_X10_append M x0 x1) := by
  unfold f_X10_append
  (simp only [ad_T, ad_L, ad_I, ad_R, ad_wI, ad_wR, ad_cp, om_ck, om_dr, om_bd, om_bx, om_if, om_oI, bd_om, bx_om, lw_S, Option.map_some, Option.map_none, Sum.map_inl, Sum.map_inr, ad0_e, adS_e, cm_b_X10_append_0]) <;> rfl
theorem cm_b_X11_checkGround_15 {J : Nat → Nat → Int64} {N : Nat} {M : gMem} : b_X11_checkGround_15 (ad J N M) = Option.map (ad0 J N) (b_X11_checkGround_15 M) := by
  unfold b_X11_checkGround_15
  (simp only [ad_T, ad_L, ad_I, ad_R, ad_wI, ad_wR, ad_cp, om_ck, om_dr, om_bd, om_bx, om_if, om_oI, bd_om, bx_om, lw_S, Option.map_some, Option.map_none, Sum.map_inl, Sum.map_inr, ad0_e, adS_e]) <;> rfl
theorem cm_b_X11_checkGround_0 {J : Nat → Nat → Int64} {N : Nat} {M : gMem} {x0 : Nat} {x1 : Int32} : b_X11_checkGround_0 (ad J N M) x0 x1 = Option.map (ad0 J N) (b_X11_checkGround_0 M x0 x1) := by
  unfold b_X11_checkGround_0
  (simp only [ad_T, ad_L, ad_I, ad_R, ad_wI, ad_wR, ad_cp, om_ck, om_dr, om_bd, om_bx, om_if, om_oI, bd_om, bx_om, lw_S, Option.map_some, Option.map_none, Sum.map_inl, Sum.map_inr, ad0_e, adS_e, cm_b_X11_checkGround_15]) <;> rfl
theorem cm_f_X11_checkGround {J : Nat → Nat → Int64} {N : Nat} {M : gMem} {x0 : Nat} {x1 : Int32} : f_X11_checkGround (ad J N M) x0 x1 = Option.map (ad0 J N) (f_X11_checkGround M x0 x1) := by
  unfold f_X11_checkGround
  (simp only [ad_T, ad_L, ad_I, ad_R, ad_wI, ad_wR, ad_cp, om_ck, om_dr, om_bd, om_bx, om_if, om_oI, bd_om, bx_om, lw_S, Option.map_some, Option.map_none, Sum.map_inl, Sum.map_inr, ad0_e, adS_e, cm_b_X11_checkGround_0]) <;> rfl
theorem cm_b_X11_checkFisher_15 {J : Nat → Nat → Int64} {N : Nat} {M : gMem} : b_X11_checkFisher_15 (ad J N M) = Option.map (ad0 J N) (b_X11_checkFisher_15 M) := by
  unfold b_X11_checkFisher_15
  (simp only [ad_T, ad_L, ad_I, ad_R, ad_wI, ad_wR, ad_cp, om_ck, om_dr, om_bd, om_bx, om_if, om_oI, bd_om, bx_om, lw_S, Option.map_some, Option.map_none, Sum.map_inl, Sum.map_inr, ad0_e, adS_e]) <;> rfl
theorem cm_b_X11_checkFisher_0 {J : Nat → Nat → Int64} {N : Nat} {M : gMem} {x0 : Nat} {x1 : Int32} : b_X11_checkFisher_0 (ad J N M) x0 x1 = Option.map (ad0 J N) (b_X11_checkFisher_0 M x0 x1) := by
  unfold b_X11_checkFisher_0
  (simp only [ad_T, ad_L, ad_I, ad_R, ad_wI, ad_wR, ad_cp, om_ck, om_dr, om_bd, om_bx, om_if, om_oI, bd_om, bx_om, lw_S, Option.map_some, Option.map_none, Sum.map_inl, Sum.map_inr, ad0_e, adS_e, cm_b_X11_checkFisher_15]) <;> rfl
theorem cm_f_X11_checkFisher {J : Nat → Nat → Int64} {N : Nat} {M : gMem} {x0 : Nat} {x1 : Int32} : f_X11_checkFisher (ad J N M) x0 x1 = Option.map (ad0 J N) (f_X11_checkFisher M x0 x1) := by
  unfold f_X11_checkFisher
  (simp only [ad_T, ad_L, ad_I, ad_R, ad_wI, ad_wR, ad_cp, om_ck, om_dr, om_bd, om_bx, om_if, om_oI, bd_om, bx_om, lw_S, Option.map_some, Option.map_none, Sum.map_inl, Sum.map_inr, ad0_e, adS_e, cm_b_X11_checkFisher_0]) <;> rfl
theorem cm_b_X11_checkTides_10 {J : Nat → Nat → Int64} {N : Nat} {M : gMem} : b_X11_checkTides_10 (ad J N M) = Option.map (ad0 J N) (b_X11_checkTides_10 M) := by
  unfold b_X11_checkTides_10
  (simp only [ad_T, ad_L, ad_I, ad_R, ad_wI, ad_wR, ad_cp, om_ck, om_dr, om_bd, om_bx, om_if, om_oI, bd_om, bx_om, lw_S, Option.map_some, Option.map_none, Sum.map_inl, Sum.map_inr, ad0_e, adS_e]) <;> rfl
theorem cm_b_X11_checkTides_0 {J : Nat → Nat → Int64} {N : Nat} {M : gMem} {x0 : Int32} {x1 : Int32} : b_X11_checkTides_0 (ad J N M) x0 x1 = Option.map (ad0 J N) (b_X11_checkTides_0 M x0 x1) := by
  unfold b_X11_checkTides_0
  (simp only [ad_T, ad_L, ad_I, ad_R, ad_wI, ad_wR, ad_cp, om_ck, om_dr, om_bd, om_bx, om_if, om_oI, bd_om, bx_om, lw_S, Option.map_some, Option.map_none, Sum.map_inl, Sum.map_inr, ad0_e, adS_e, cm_b_X11_checkTides_10]) <;> rfl
theorem cm_f_X11_checkTides {J : Nat → Nat → Int64} {N : Nat} {M : gMem} {x0 : Int32} {x1 : Int32} : f_X11_checkTides (ad J N M) x0 x1 = Option.map (ad0 J N) (f_X11_checkTides M x0 x1) := by
  unfold f_X11_checkTides
  (simp only [ad_T, ad_L, ad_I, ad_R, ad_wI, ad_wR, ad_cp, om_ck, om_dr, om_bd, om_bx, om_if, om_oI, bd_om, bx_om, lw_S, Option.map_some, Option.map_none, Sum.map_inl, Sum.map_inr, ad0_e, adS_e, cm_b_X11_checkTides_0]) <;> rfl
theorem cm_b_X11_lookAhead_0 {J : Nat → Nat → Int64} {N : Nat} {Z : Nat → Nat} {M : gMem} {x0 : Nat} : b_X11_lookAhead_0 Z (ad J N M) x0 = Option.map (ad0 J N) (b_X11_lookAhead_0 Z M x0) := by
  unfold b_X11_lookAhead_0
  (simp only [ad_T, ad_L, ad_I, ad_R, ad_wI, ad_wR, ad_cp, om_ck, om_dr, om_bd, om_bx, om_if, om_oI, bd_om, bx_om, lw_S, Option.map_some, Option.map_none, Sum.map_inl, Sum.map_inr, ad0_e, adS_e, cm_f_X7_copyFrom]) <;> rfl
theorem cm_f_X11_lookAhead {J : Nat → Nat → Int64} {N : Nat} {Z : Nat → Nat} {M : gMem} {x0 : Nat} : f_X11_lookAhead Z (ad J N M) x0 = Option.map (ad0 J N) (f_X11_lookAhead Z M x0) := by
  unfold f_X11_lookAhead
  (simp only [ad_T, ad_L, ad_I, ad_R, ad_wI, ad_wR, ad_cp, om_ck, om_dr, om_bd, om_bx, om_if, om_oI, bd_om, bx_om, lw_S, Option.map_some, Option.map_none, Sum.map_inl, Sum.map_inr, ad0_e, adS_e, cm_b_X11_lookAhead_0]) <;> rfl
theorem cm_b_X11_feed_0 {J : Nat → Nat → Int64} {N : Nat} {M : gMem} {x0 : Nat} {x1 : Int32} {x2 : Int32} {x3 : Int32} {x4 : Int32} {x5 : Int32} : b_X11_feed_0 (ad J N M) x0 x1 x2 x3 x4 x5 = Option.map (ad0 J N) (b_X11_feed_0 M x0 x1 x2 x3 x4 x5) := by
  unfold b_X11_feed_0
  (simp only [ad_T, ad_L, ad_I, ad_R, ad_wI, ad_wR, ad_cp, om_ck, om_dr, om_bd, om_bx, om_if, om_oI, bd_om, bx_om, lw_S, Option.map_some, Option.map_none, Sum.map_inl, Sum.map_inr, ad0_e, adS_e, cm_f_X10_append]) <;> rfl
theorem cm_f_X11_feed {J : Nat → Nat → Int64} {N : Nat} {M : gMem} {x0 : Nat} {x1 : Int32} {x2 : Int32} {x3 : Int32} {x4 : Int32} {x5 : Int32} : f_X11_feed (ad J N M) x0 x1 x2 x3 x4 x5 = Option.map (ad0 J N) (f_X11_feed M x0 x1 x2 x3 x4 x5) := by
  unfold f_X11_feed
  (simp only [ad_T, ad_L, ad_I, ad_R, ad_wI, ad_wR, ad_cp, om_ck, om_dr, om_bd, om_bx, om_if, om_oI, bd_om, bx_om, lw_S, Option.map_some, Option.map_none, Sum.map_inl, Sum.map_inr, ad0_e, adS_e, cm_b_X11_feed_0]) <;> rfl
theorem cm_b_X11_trim_15 {J : Nat → Nat → Int64} {N : Nat} {M : gMem} : b_X11_trim_15 (ad J N M) = Option.map (ad0 J N) (b_X11_trim_15 M) := by
  unfold b_X11_trim_15
  (simp only [ad_T, ad_L, ad_I, ad_R, ad_wI, ad_wR, ad_cp, om_ck, om_dr, om_bd, om_bx, om_if, om_oI, bd_om, bx_om, lw_S, Option.map_some, Option.map_none, Sum.map_inl, Sum.map_inr, ad0_e, adS_e]) <;> rfl
theorem cm_b_X11_trim_0 {J : Nat → Nat → Int64} {N : Nat} {M : gMem} {x0 : Nat} {x1 : Int32} : b_X11_trim_0 (ad J N M) x0 x1 = Option.map (ad0 J N) (b_X11_trim_0 M x0 x1) := by
  unfold b_X11_trim_0
  (simp only [ad_T, ad_L, ad_I, ad_R, ad_wI, ad_wR, ad_cp, om_ck, om_dr, om_bd, om_bx, om_if, om_oI, bd_om, bx_om, lw_S, Option.map_some, Option.map_none, Sum.map_inl, Sum.map_inr, ad0_e, adS_e, cm_b_X11_trim_15]) <;> rfl
theorem cm_f_X11_trim {J : Nat → Nat → Int64} {N : Nat} {M : gMem} {x0 : Nat} {x1 : Int32} : f_X11_trim (ad J N M) x0 x1 = Option.map (ad0 J N) (f_X11_trim M x0 x1) := by
  unfold f_X11_trim
  (simp only [ad_T, ad_L, ad_I, ad_R, ad_wI, ad_wR, ad_cp, om_ck, om_dr, om_bd, om_bx, om_if, om_oI, bd_om, bx_om, lw_S, Option.map_some, Option.map_none, Sum.map_inl, Sum.map_inr, ad0_e, adS_e, cm_b_X11_trim_0]) <;> rfl
theorem cm_b_X11_count_0 {J : Nat → Nat → Int64} {N : Nat} {M : gMem} {x0 : Nat} {x1 : Int32} : b_X11_count_0 (ad J N M) x0 x1 = Option.map (ad0 J N) (b_X11_count_0 M x0 x1) := by
  unfold b_X11_count_0
  (simp only [ad_T, ad_L, ad_I, ad_R, ad_wI, ad_wR, ad_cp, om_ck, om_dr, om_bd, om_bx, om_if, om_oI, bd_om, bx_om, lw_S, Option.map_some, Option.map_none, Sum.map_inl, Sum.map_inr, ad0_e, adS_e, cm_f_X7_allFish, cm_f_X7_allStores, cm_f_X7_widenedNets, cm_f_X7_allCheats]) <;> rfl
theorem cm_f_X11_count {J : Nat → Nat → Int64} {N : Nat} {M : gMem} {x0 : Nat} {x1 : Int32} : f_X11_count (ad J N M) x0 x1 = Option.map (ad0 J N) (f_X11_count M x0 x1) := by
  unfold f_X11_count
  (simp only [ad_T, ad_L, ad_I, ad_R, ad_wI, ad_wR, ad_cp, om_ck, om_dr, om_bd, om_bx, om_if, om_oI, bd_om, bx_om, lw_S, Option.map_some, Option.map_none, Sum.map_inl, Sum.map_inr, ad0_e, adS_e, cm_b_X11_count_0]) <;> rfl
theorem cm_b_X11_ground_73 {J : Nat → Nat → Int64} {N : Nat} {M : gMem} {x2 : Int32} {x3 : Option Nat} : b_X11_ground_73 (ad J N M) x2 x3 = Option.map (ad0 J N) (b_X11_ground_73 M x2 x3) := by
  unfold b_X11_ground_73
  (simp only [ad_T, ad_L, ad_I, ad_R, ad_wI, ad_wR, ad_cp, om_ck, om_dr, om_bd, om_bx, om_if, om_oI, bd_om, bx_om, lw_S, Option.map_some, Option.map_none, Sum.map_inl, Sum.map_inr, ad0_e, adS_e]) <;> rfl
theorem cm_b_X11_ground_0 {J : Nat → Nat → Int64} {N : Nat} {M : gMem} {x0 : Nat} {x1 : Int32} {x2 : Int32} : b_X11_ground_0 (ad J N M) x0 x1 x2 = Option.map (ad0 J N) (b_X11_ground_0 M x0 x1 x2) := by
  unfold b_X11_ground_0
  (simp only [ad_T, ad_L, ad_I, ad_R, ad_wI, ad_wR, ad_cp, om_ck, om_dr, om_bd, om_bx, om_if, om_oI, bd_om, bx_om, lw_S, Option.map_some, Option.map_none, Sum.map_inl, Sum.map_inr, ad0_e, adS_e, cm_f_X11_checkGround, cm_f_X3_allFish, cm_b_X11_ground_73]) <;> rfl
theorem cm_f_X11_ground {J : Nat → Nat → Int64} {N : Nat} {M : gMem} {x0 : Nat} {x1 : Int32} {x2 : Int32} : f_X11_ground (ad J N M) x0 x1 x2 = Option.map (ad0 J N) (f_X11_ground M x0 x1 x2) := by
  unfold f_X11_ground
  (simp only [ad_T, ad_L, ad_I, ad_R, ad_wI, ad_wR, ad_cp, om_ck, om_dr, om_bd, om_bx, om_if, om_oI, bd_om, bx_om, lw_S, Option.map_some, Option.map_none, Sum.map_inl, Sum.map_inr, ad0_e, adS_e, cm_b_X11_ground_0]) <;> rfl
theorem cm_b_X11_fisher_124 {J : Nat → Nat → Int64} {N : Nat} {M : gMem} {s0 : Int32} : b_X11_fisher_124 (ad J N M) s0 = Option.map (ad0 J N) (b_X11_fisher_124 M s0) := by
  unfold b_X11_fisher_124
  (simp only [ad_T, ad_L, ad_I, ad_R, ad_wI, ad_wR, ad_cp, om_ck, om_dr, om_bd, om_bx, om_if, om_oI, bd_om, bx_om, lw_S, Option.map_some, Option.map_none, Sum.map_inl, Sum.map_inr, ad0_e, adS_e]) <;> rfl
theorem cm_b_X11_fisher_0 {J : Nat → Nat → Int64} {N : Nat} {M : gMem} {x0 : Nat} {x1 : Int32} {x2 : Int32} : b_X11_fisher_0 (ad J N M) x0 x1 x2 = Option.map (ad0 J N) (b_X11_fisher_0 M x0 x1 x2) := by
  unfold b_X11_fisher_0
  (simp only [ad_T, ad_L, ad_I, ad_R, ad_wI, ad_wR, ad_cp, om_ck, om_dr, om_bd, om_bx, om_if, om_oI, bd_om, bx_om, lw_S, Option.map_some, Option.map_none, Sum.map_inl, Sum.map_inr, ad0_e, adS_e, cm_f_X11_checkFisher, cm_b_X11_fisher_124]) <;> rfl
theorem cm_f_X11_fisher {J : Nat → Nat → Int64} {N : Nat} {M : gMem} {x0 : Nat} {x1 : Int32} {x2 : Int32} : f_X11_fisher (ad J N M) x0 x1 x2 = Option.map (ad0 J N) (f_X11_fisher M x0 x1 x2) := by
  unfold f_X11_fisher
  (simp only [ad_T, ad_L, ad_I, ad_R, ad_wI, ad_wR, ad_cp, om_ck, om_dr, om_bd, om_bx, om_if, om_oI, bd_om, bx_om, lw_S, Option.map_some, Option.map_none, Sum.map_inl, Sum.map_inr, ad0_e, adS_e, cm_b_X11_fisher_0]) <;> rfl
theorem cm_b_X11_pact_92 {J : Nat → Nat → Int64} {N : Nat} {M : gMem} {s0 : Int32} : b_X11_pact_92 (ad J N M) s0 = Option.map (ad0 J N) (b_X11_pact_92 M s0) := by
  unfold b_X11_pact_92
  (simp only [ad_T, ad_L, ad_I, ad_R, ad_wI, ad_wR, ad_cp, om_ck, om_dr, om_bd, om_bx, om_if, om_oI, bd_om, bx_om, lw_S, Option.map_some, Option.map_none, Sum.map_inl, Sum.map_inr, ad0_e, adS_e]) <;> rfl
theorem cm_b_X11_pact_15 {J : Nat → Nat → Int64} {N : Nat} {M : gMem} : b_X11_pact_15 (ad J N M) = Option.map (ad0 J N) (b_X11_pact_15 M) := by
  unfold b_X11_pact_15
  (simp only [ad_T, ad_L, ad_I, ad_R, ad_wI, ad_wR, ad_cp, om_ck, om_dr, om_bd, om_bx, om_if, om_oI, bd_om, bx_om, lw_S, Option.map_some, Option.map_none, Sum.map_inl, Sum.map_inr, ad0_e, adS_e]) <;> rfl
theorem cm_b_X11_pact_0 {J : Nat → Nat → Int64} {N : Nat} {M : gMem} {x0 : Nat} {x1 : Int32} {x2 : Int32} : b_X11_pact_0 (ad J N M) x0 x1 x2 = Option.map (ad0 J N) (b_X11_pact_0 M x0 x1 x2) := by
  unfold b_X11_pact_0
  (simp only [ad_T, ad_L, ad_I, ad_R, ad_wI, ad_wR, ad_cp, om_ck, om_dr, om_bd, om_bx, om_if, om_oI, bd_om, bx_om, lw_S, Option.map_some, Option.map_none, Sum.map_inl, Sum.map_inr, ad0_e, adS_e, cm_b_X11_pact_15, cm_f_X5_splits, cm_b_X11_pact_92]) <;> rfl
theorem cm_f_X11_pact {J : Nat → Nat → Int64} {N : Nat} {M : gMem} {x0 : Nat} {x1 : Int32} {x2 : Int32} : f_X11_pact (ad J N M) x0 x1 x2 = Option.map (ad0 J N) (f_X11_pact M x0 x1 x2) := by
  unfold f_X11_pact
  (simp only [ad_T, ad_L, ad_I, ad_R, ad_wI, ad_wR, ad_cp, om_ck, om_dr, om_bd, om_bx, om_if, om_oI, bd_om, bx_om, lw_S, Option.map_some, Option.map_none, Sum.map_inl, Sum.map_inr, ad0_e, adS_e, cm_b_X11_pact_0]) <;> rfl
theorem cm_b_X11_cheat_0 {J : Nat → Nat → Int64} {N : Nat} {M : gMem} {x0 : Nat} {x1 : Int32} {x2 : Int32} : b_X11_cheat_0 (ad J N M) x0 x1 x2 = Option.map (ad0 J N) (b_X11_cheat_0 M x0 x1 x2) := by
  unfold b_X11_cheat_0
  (simp only [ad_T, ad_L, ad_I, ad_R, ad_wI, ad_wR, ad_cp, om_ck, om_dr, om_bd, om_bx, om_if, om_oI, bd_om, bx_om, lw_S, Option.map_some, Option.map_none, Sum.map_inl, Sum.map_inr, ad0_e, adS_e, cm_f_X11_checkFisher, cm_f_X7_allCheats]) <;> rfl
theorem cm_f_X11_cheat {J : Nat → Nat → Int64} {N : Nat} {M : gMem} {x0 : Nat} {x1 : Int32} {x2 : Int32} : f_X11_cheat (ad J N M) x0 x1 x2 = Option.map (ad0 J N) (f_X11_cheat M x0 x1 x2) := by
  unfold f_X11_cheat
  (simp only [ad_T, ad_L, ad_I, ad_R, ad_wI, ad_wR, ad_cp, om_ck, om_dr, om_bd, om_bx, om_if, om_oI, bd_om, bx_om, lw_S, Option.map_some, Option.map_none, Sum.map_inl, Sum.map_inr, ad0_e, adS_e, cm_b_X11_cheat_0]) <;> rfl
theorem cm_b_X11_lot_15 {J : Nat → Nat → Int64} {N : Nat} {M : gMem} : b_X11_lot_15 (ad J N M) = Option.map (ad0 J N) (b_X11_lot_15 M) := by
  unfold b_X11_lot_15
  (simp only [ad_T, ad_L, ad_I, ad_R, ad_wI, ad_wR, ad_cp, om_ck, om_dr, om_bd, om_bx, om_if, om_oI, bd_om, bx_om, lw_S, Option.map_some, Option.map_none, Sum.map_inl, Sum.map_inr, ad0_e, adS_e]) <;> rfl
theorem cm_b_X11_lot_0 {J : Nat → Nat → Int64} {N : Nat} {M : gMem} {x0 : Nat} {x1 : Int32} : b_X11_lot_0 (ad J N M) x0 x1 = Option.map (ad0 J N) (b_X11_lot_0 M x0 x1) := by
  unfold b_X11_lot_0
  (simp only [ad_T, ad_L, ad_I, ad_R, ad_wI, ad_wR, ad_cp, om_ck, om_dr, om_bd, om_bx, om_if, om_oI, bd_om, bx_om, lw_S, Option.map_some, Option.map_none, Sum.map_inl, Sum.map_inr, ad0_e, adS_e, cm_b_X11_lot_15, cm_f_X7_drawLots]) <;> rfl
theorem cm_f_X11_lot {J : Nat → Nat → Int64} {N : Nat} {M : gMem} {x0 : Nat} {x1 : Int32} : f_X11_lot (ad J N M) x0 x1 = Option.map (ad0 J N) (f_X11_lot M x0 x1) := by
  unfold f_X11_lot
  (simp only [ad_T, ad_L, ad_I, ad_R, ad_wI, ad_wR, ad_cp, om_ck, om_dr, om_bd, om_bx, om_if, om_oI, bd_om, bx_om, lw_S, Option.map_some, Option.map_none, Sum.map_inl, Sum.map_inr, ad0_e, adS_e, cm_b_X11_lot_0]) <;> rfl
theorem cm_b_X11_took_0 {J : Nat → Nat → Int64} {N : Nat} {M : gMem} {x0 : Nat} {x1 : Int32} {x2 : Int32} : b_X11_took_0 (ad J N M) x0 x1 x2 = Option.map (ad0 J N) (b_X11_took_0 M x0 x1 x2) := by
  unfold b_X11_took_0
  (simp only [ad_T, ad_L, ad_I, ad_R, ad_wI, ad_wR, ad_cp, om_ck, om_dr, om_bd, om_bx, om_if, om_oI, bd_om, bx_om, lw_S, Option.map_some, Option.map_none, Sum.map_inl, Sum.map_inr, ad0_e, adS_e, cm_f_X11_checkGround, cm_f_X11_checkFisher]) <;> rfl
theorem cm_f_X11_took {J : Nat → Nat → Int64} {N : Nat} {M : gMem} {x0 : Nat} {x1 : Int32} {x2 : Int32} : f_X11_took (ad J N M) x0 x1 x2 = Option.map (ad0 J N) (f_X11_took M x0 x1 x2) := by
  unfold f_X11_took
  (simp only [ad_T, ad_L, ad_I, ad_R, ad_wI, ad_wR, ad_cp, om_ck, om_dr, om_bd, om_bx, om_if, om_oI, bd_om, bx_om, lw_S, Option.map_some, Option.map_none, Sum.map_inl, Sum.map_inr, ad0_e, adS_e, cm_b_X11_took_0]) <;> rfl
theorem cm_b_X11_blame_53 {J : Nat → Nat → Int64} {N : Nat} {M : gMem} {x0 : Nat} {x1 : Int32} {x2 : Int32} {x3 : Int32} {x4 : Int32} : b_X11_blame_53 (ad J N M) x0 x1 x2 x3 x4 = Option.map (Sum.map (adS J N) (ad0 J N)) (b_X11_blame_53 M x0 x1 x2 x3 x4) := by
  unfold b_X11_blame_53
  (simp only [ad_T, ad_L, ad_I, ad_R, ad_wI, ad_wR, ad_cp, om_ck, om_dr, om_bd, om_bx, om_if, om_oI, bd_om, bx_om, lw_S, Option.map_some, Option.map_none, Sum.map_inl, Sum.map_inr, ad0_e, adS_e]) <;> rfl
theorem cm_bb_X11_blame_12 {J : Nat → Nat → Int64} {N : Nat} {M : gMem} {x0 : Nat} {x1 : Int32} {x2 : Int32} {x3 : Int32} {x4 : Int32} : bb_X11_blame_12 (ad J N M) x0 x1 x2 x3 x4 = Option.map (Sum.map (adS J N) (ad0 J N)) (bb_X11_blame_12 M x0 x1 x2 x3 x4) := by
  unfold bb_X11_blame_12
  (simp only [ad_T, ad_L, ad_I, ad_R, ad_wI, ad_wR, ad_cp, om_ck, om_dr, om_bd, om_bx, om_if, om_oI, bd_om, bx_om, lw_S, Option.map_some, Option.map_none, Sum.map_inl, Sum.map_inr, ad0_e, adS_e, cm_b_X11_blame_53]) <;> rfl
theorem cm_lp_X11_blame_12 {J : Nat → Nat → Int64} {N : Nat} {M : gMem} {x0 : Nat} {x1 : Int32} {x2 : Int32} {x3 : Int32} {x4 : Int32} : lp_X11_blame_12 (ad J N M) x0 x1 x2 x3 x4 = Option.map (ad0 J N) (lp_X11_blame_12 M x0 x1 x2 x3 x4) := lp_om (φ := adS J N) (ψ := (ad0 J N)) (fun q => cm_bb_X11_blame_12) (fun a _ _ => ⟨a, rfl⟩) (M, x2, x3, x4)
theorem cm_b_X11_blame_0 {J : Nat → Nat → Int64} {N : Nat} {M : gMem} {x0 : Nat} {x1 : Int32} : b_X11_blame_0 (ad J N M) x0 x1 = Option.map (ad0 J N) (b_X11_blame_0 M x0 x1) := by
  unfold b_X11_blame_0
  (simp only [ad_T, ad_L, ad_I, ad_R, ad_wI, ad_wR, ad_cp, om_ck, om_dr, om_bd, om_bx, om_if, om_oI, bd_om, bx_om, lw_S, Option.map_some, Option.map_none, Sum.map_inl, Sum.map_inr, ad0_e, adS_e, cm_f_X11_checkGround, cm_lp_X11_blame_12]) <;> rfl
theorem cm_f_X11_blame {J : Nat → Nat → Int64} {N : Nat} {M : gMem} {x0 : Nat} {x1 : Int32} : f_X11_blame (ad J N M) x0 x1 = Option.map (ad0 J N) (f_X11_blame M x0 x1) := by
  unfold f_X11_blame
  (simp only [ad_T, ad_L, ad_I, ad_R, ad_wI, ad_wR, ad_cp, om_ck, om_dr, om_bd, om_bx, om_if, om_oI, bd_om, bx_om, lw_S, Option.map_some, Option.map_none, Sum.map_inl, Sum.map_inr, ad0_e, adS_e, cm_b_X11_blame_0]) <;> rfl
theorem cm_b_X11_pass_0 {J : Nat → Nat → Int64} {N : Nat} {Z : Nat → Nat} {M : gMem} {x0 : Nat} {x1 : Int32} : b_X11_pass_0 Z (ad J N M) x0 x1 = Option.map (ad0 J N) (b_X11_pass_0 Z M x0 x1) := by
  unfold b_X11_pass_0
  (simp only [ad_T, ad_L, ad_I, ad_R, ad_wI, ad_wR, ad_cp, om_ck, om_dr, om_bd, om_bx, om_if, om_oI, bd_om, bx_om, lw_S, Option.map_some, Option.map_none, Sum.map_inl, Sum.map_inr, ad0_e, adS_e, cm_f_X11_checkTides, cm_f_X7_passTides]) <;> rfl
theorem cm_f_X11_pass {J : Nat → Nat → Int64} {N : Nat} {Z : Nat → Nat} {M : gMem} {x0 : Nat} {x1 : Int32} : f_X11_pass Z (ad J N M) x0 x1 = Option.map (ad0 J N) (f_X11_pass Z M x0 x1) := by
  unfold f_X11_pass
  (simp only [ad_T, ad_L, ad_I, ad_R, ad_wI, ad_wR, ad_cp, om_ck, om_dr, om_bd, om_bx, om_if, om_oI, bd_om, bx_om, lw_S, Option.map_some, Option.map_none, Sum.map_inl, Sum.map_inr, ad0_e, adS_e, cm_b_X11_pass_0]) <;> rfl
theorem cm_b_X11_foresee_15 {J : Nat → Nat → Int64} {N : Nat} {Z : Nat → Nat} {M : gMem} : b_X11_foresee_15 Z (ad J N M) = Option.map (ad0 J N) (b_X11_foresee_15 Z M) := by
  unfold b_X11_foresee_15
  (simp only [ad_T, ad_L, ad_I, ad_R, ad_wI, ad_wR, ad_cp, om_ck, om_dr, om_bd, om_bx, om_if, om_oI, bd_om, bx_om, lw_S, Option.map_some, Option.map_none, Sum.map_inl, Sum.map_inr, ad0_e, adS_e]) <;> rfl
theorem cm_b_X11_foresee_0 {J : Nat → Nat → Int64} {N : Nat} {Z : Nat → Nat} {M : gMem} {x0 : Nat} {x1 : Int32} {x2 : Int32} : b_X11_foresee_0 Z (ad J N M) x0 x1 x2 = Option.map (ad0 J N) (b_X11_foresee_0 Z M x0 x1 x2) := by
  unfold b_X11_foresee_0
  (simp only [ad_T, ad_L, ad_I, ad_R, ad_wI, ad_wR, ad_cp, om_ck, om_dr, om_bd, om_bx, om_if, om_oI, bd_om, bx_om, lw_S, Option.map_some, Option.map_none, Sum.map_inl, Sum.map_inr, ad0_e, adS_e, cm_f_X11_checkTides, cm_b_X11_foresee_15, cm_f_X11_lookAhead, cm_f_X7_passTides, cm_f_X7_allStores, cm_f_X7_allFish, cm_f_X7_storeGap]) <;> rfl
theorem cm_f_X11_foresee {J : Nat → Nat → Int64} {N : Nat} {Z : Nat → Nat} {M : gMem} {x0 : Nat} {x1 : Int32} {x2 : Int32} : f_X11_foresee Z (ad J N M) x0 x1 x2 = Option.map (ad0 J N) (f_X11_foresee Z M x0 x1 x2) := by
  unfold f_X11_foresee
  (simp only [ad_T, ad_L, ad_I, ad_R, ad_wI, ad_wR, ad_cp, om_ck, om_dr, om_bd, om_bx, om_if, om_oI, bd_om, bx_om, lw_S, Option.map_some, Option.map_none, Sum.map_inl, Sum.map_inr, ad0_e, adS_e, cm_b_X11_foresee_0]) <;> rfl
theorem cm_b_X11_pays_0 {J : Nat → Nat → Int64} {N : Nat} {Z : Nat → Nat} {M : gMem} {x0 : Nat} {x1 : Int32} {x2 : Int32} : b_X11_pays_0 Z (ad J N M) x0 x1 x2 = Option.map (ad0 J N) (b_X11_pays_0 Z M x0 x1 x2) := by
  unfold b_X11_pays_0
  (simp only [ad_T, ad_L, ad_I, ad_R, ad_wI, ad_wR, ad_cp, om_ck, om_dr, om_bd, om_bx, om_if, om_oI, bd_om, bx_om, lw_S, Option.map_some, Option.map_none, Sum.map_inl, Sum.map_inr, ad0_e, adS_e, cm_f_X11_checkFisher, cm_f_X11_checkTides, cm_f_X11_lookAhead, cm_f_X7_passTides]) <;> rfl
theorem cm_f_X11_pays {J : Nat → Nat → Int64} {N : Nat} {Z : Nat → Nat} {M : gMem} {x0 : Nat} {x1 : Int32} {x2 : Int32} : f_X11_pays Z (ad J N M) x0 x1 x2 = Option.map (ad0 J N) (f_X11_pays Z M x0 x1 x2) := by
  unfold f_X11_pays
  (simp only [ad_T, ad_L, ad_I, ad_R, ad_wI, ad_wR, ad_cp, om_ck, om_dr, om_bd, om_bx, om_if, om_oI, bd_om, bx_om, lw_S, Option.map_some, Option.map_none, Sum.map_inl, Sum.map_inr, ad0_e, adS_e, cm_b_X11_pays_0]) <;> rfl
theorem cm_b_X11_empty_28 {J : Nat → Nat → Int64} {N : Nat} {Z : Nat → Nat} {M : gMem} {x1 : Int32} {x2 : Option Nat} {x3 : Int32} : b_X11_empty_28 Z (ad J N M) x1 x2 x3 = Option.map (Sum.map (adS J N) (ad0 J N)) (b_X11_empty_28 Z M x1 x2 x3) := by
  unfold b_X11_empty_28
  (simp only [ad_T, ad_L, ad_I, ad_R, ad_wI, ad_wR, ad_cp, om_ck, om_dr, om_bd, om_bx, om_if, om_oI, bd_om, bx_om, lw_S, Option.map_some, Option.map_none, Sum.map_inl, Sum.map_inr, ad0_e, adS_e, cm_f_X3_allFish]) <;> rfl
theorem cm_bb_X11_empty_12 {J : Nat → Nat → Int64} {N : Nat} {Z : Nat → Nat} {M : gMem} {x1 : Int32} {x2 : Option Nat} {x3 : Int32} : bb_X11_empty_12 Z (ad J N M) x1 x2 x3 = Option.map (Sum.map (adS J N) (ad0 J N)) (bb_X11_empty_12 Z M x1 x2 x3) := by
  unfold bb_X11_empty_12
  (simp only [ad_T, ad_L, ad_I, ad_R, ad_wI, ad_wR, ad_cp, om_ck, om_dr, om_bd, om_bx, om_if, om_oI, bd_om, bx_om, lw_S, Option.map_some, Option.map_none, Sum.map_inl, Sum.map_inr, ad0_e, adS_e, cm_b_X11_empty_28, cm_f_X7_passTides]) <;> rfl
theorem cm_lp_X11_empty_12 {J : Nat → Nat → Int64} {N : Nat} {Z : Nat → Nat} {M : gMem} {x1 : Int32} {x2 : Option Nat} {x3 : Int32} : lp_X11_empty_12 Z (ad J N M) x1 x2 x3 = Option.map (ad0 J N) (lp_X11_empty_12 Z M x1 x2 x3) := lp_om (φ := adS J N) (ψ := (ad0 J N)) (fun q => cm_bb_X11_empty_12) (fun a _ _ => ⟨a, rfl⟩) (M, x3)
theorem cm_b_X11_empty_0 {J : Nat → Nat → Int64} {N : Nat} {Z : Nat → Nat} {M : gMem} {x0 : Nat} {x1 : Int32} : b_X11_empty_0 Z (ad J N M) x0 x1 = Option.map (ad0 J N) (b_X11_empty_0 Z M x0 x1) := by
  unfold b_X11_empty_0
  (simp only [ad_T, ad_L, ad_I, ad_R, ad_wI, ad_wR, ad_cp, om_ck, om_dr, om_bd, om_bx, om_if, om_oI, bd_om, bx_om, lw_S, Option.map_some, Option.map_none, Sum.map_inl, Sum.map_inr, ad0_e, adS_e, cm_f_X11_checkGround, cm_f_X11_lookAhead, cm_lp_X11_empty_12]) <;> rfl
theorem cm_f_X11_empty {J : Nat → Nat → Int64} {N : Nat} {Z : Nat → Nat} {M : gMem} {x0 : Nat} {x1 : Int32} : f_X11_empty Z (ad J N M) x0 x1 = Option.map (ad0 J N) (f_X11_empty Z M x0 x1) := by
  unfold f_X11_empty
  (simp only [ad_T, ad_L, ad_I, ad_R, ad_wI, ad_wR, ad_cp, om_ck, om_dr, om_bd, om_bx, om_if, om_oI, bd_om, bx_om, lw_S, Option.map_some, Option.map_none, Sum.map_inl, Sum.map_inr, ad0_e, adS_e, cm_b_X11_empty_0]) <;> rfl
theorem cm_b_X11_advise_80 {J : Nat → Nat → Int64} {N : Nat} {Z : Nat → Nat} {M : gMem} {x0 : Nat} {x1 : Int32} {x2 : Int32} {x3 : Int32} {x4 : Int32} {x5 : Int32} : b_X11_advise_80 Z (ad J N M) x0 x1 x2 x3 x4 x5 = Option.map (Sum.map (adS J N) (ad0 J N)) (b_X11_advise_80 Z M x0 x1 x2 x3 x4 x5) := by
  unfold b_X11_advise_80
  (simp only [ad_T, ad_L, ad_I, ad_R, ad_wI, ad_wR, ad_cp, om_ck, om_dr, om_bd, om_bx, om_if, om_oI, bd_om, bx_om, lw_S, Option.map_some, Option.map_none, Sum.map_inl, Sum.map_inr, ad0_e, adS_e]) <;> rfl
theorem cm_bb_X11_advise_19 {J : Nat → Nat → Int64} {N : Nat} {Z : Nat → Nat} {M : gMem} {x0 : Nat} {x1 : Int32} {x2 : Int32} {x3 : Int32} {x4 : Int32} {x5 : Int32} : bb_X11_advise_19 Z (ad J N M) x0 x1 x2 x3 x4 x5 = Option.map (Sum.map (adS J N) (ad0 J N)) (bb_X11_advise_19 Z M x0 x1 x2 x3 x4 x5) := by
  unfold bb_X11_advise_19
  (simp only [ad_T, ad_L, ad_I, ad_R, ad_wI, ad_wR, ad_cp, om_ck, om_dr, om_bd, om_bx, om_if, om_oI, bd_om, bx_om, lw_S, Option.map_some, Option.map_none, Sum.map_inl, Sum.map_inr, ad0_e, adS_e, cm_f_X11_lookAhead, cm_f_X7_passTides, cm_b_X11_advise_80]) <;> rfl
theorem cm_lp_X11_advise_19 {J : Nat → Nat → Int64} {N : Nat} {Z : Nat → Nat} {M : gMem} {x0 : Nat} {x1 : Int32} {x2 : Int32} {x3 : Int32} {x4 : Int32} {x5 : Int32} : lp_X11_advise_19 Z (ad J N M) x0 x1 x2 x3 x4 x5 = Option.map (ad0 J N) (lp_X11_advise_19 Z M x0 x1 x2 x3 x4 x5) := lp_om (φ := adS J N) (ψ := (ad0 J N)) (fun q => cm_bb_X11_advise_19) (fun a _ _ => ⟨a, rfl⟩) (M, x3, x4, x5)
theorem cm_b_X11_advise_0 {J : Nat → Nat → Int64} {N : Nat} {Z : Nat → Nat} {M : gMem} {x0 : Nat} {x1 : Int32} {x2 : Int32} : b_X11_advise_0 Z (ad J N M) x0 x1 x2 = Option.map (ad0 J N) (b_X11_advise_0 Z M x0 x1 x2) := by
  unfold b_X11_advise_0
  (simp only [ad_T, ad_L, ad_I, ad_R, ad_wI, ad_wR, ad_cp, om_ck, om_dr, om_bd, om_bx, om_if, om_oI, bd_om, bx_om, lw_S, Option.map_some, Option.map_none, Sum.map_inl, Sum.map_inr, ad0_e, adS_e, cm_f_X11_checkFisher, cm_f_X11_checkTides, cm_lp_X11_advise_19]) <;> rfl
theorem cm_f_X11_advise {J : Nat → Nat → Int64} {N : Nat} {Z : Nat → Nat} {M : gMem} {x0 : Nat} {x1 : Int32} {x2 : Int32} : f_X11_advise Z (ad J N M) x0 x1 x2 = Option.map (ad0 J N) (f_X11_advise Z M x0 x1 x2) := by
  unfold f_X11_advise
  (simp only [ad_T, ad_L, ad_I, ad_R, ad_wI, ad_wR, ad_cp, om_ck, om_dr, om_bd, om_bx, om_if, om_oI, bd_om, bx_om, lw_S, Option.map_some, Option.map_none, Sum.map_inl, Sum.map_inr, ad0_e, adS_e, cm_b_X11_advise_0]) <;> rfl

