/-! ## Pure: the class's calls make nothing, and change no tag and no length (written by gen98zz1.py) -/
def PW {α : Type} (Q : α → Prop) (o : Option α) : Prop := ∀ z, o = some z → Q z
def QR {α : Type} (T L : Nat → Nat) (z : α × gMem) : Prop := mT z.2 = T ∧ mL z.2 = L
def QS {σ β : Type} (T L : Nat → Nat) (Q : β → Prop) (z : (gMem × σ) ⊕ β) : Prop := Sum.elim (fun q => mT q.1 = T ∧ mL q.1 = L) Q z
theorem pw_ck {α : Type} {Q : α → Prop} {c : Prop} [Decidable c] {o : Option α} (h : PW Q o) : PW Q (ck c o) := sorry

theorem pw_if {α : Type} {Q : α → Prop} {c : Prop} [Decidable c] {a b : Option α} (h : PW Q a) (g : PW Q b) : PW Q (if c then a else b) := sorry

theorem pw_dr {α : Type} {Q : α → Prop} {r : Option Nat} {k : Nat → Option α} (h : ∀ a, PW Q (k a)) : PW Q (dr r k) := sorry

theorem pw_lw {α : Type} {Q : α → Prop} {M : gMem} {k : gMem → Option α} (h : PW Q (k M)) : PW Q (lw M k) := sorry

theorem pw_bd {α β : Type} {T L : Nat → Nat} {Q : β → Prop} {o : Option (α × gMem)} {k : α → gMem → Option β} (h : PW (QR T L) o) (g : ∀ x M, mT M = T → mL M = L → PW Q (k x M)) : PW Q (bd o k) := sorry

theorem pw_bx {α β : Type} {T L : Nat → Nat} {Q : β → Prop} {o : Option ((Nat ⊕ α) × gMem)} {kt : Nat → gMem → Option β} {kr : α → gMem → Option β} (h : PW (QR T L) o) (g1 : ∀ x M, mT M = T → mL M = L → PW Q (kt x M)) (g2 : ∀ x M, mT M = T → mL M = L → PW Q (kr x M)) : PW Q (bx o kt kr) := sorry

theorem pw_oI {σ β : Type} {T L : Nat → Nat} {Q : β → Prop} {o : Option β} (h : PW Q o) : PW (QS (σ := σ) T L Q) (oI o) := sorry

theorem pw_some {α : Type} {T L : Nat → Nat} {M : gMem} {x : α} (h : mT M = T) (g : mL M = L) : PW (QR T L) (some (x, M)) := sorry

theorem pw_inl {σ β : Type} {T L : Nat → Nat} {Q : β → Prop} {M : gMem} {x : σ} (h : mT M = T) (g : mL M = L) : PW (QS T L Q) (some (Sum.inl (M, x))) := sorry

theorem pw_none {α : Type} {Q : α → Prop} : PW Q none := sorry

theorem pw_lpN {σ β : Type} {T L : Nat → Nat} {Q : β → Prop} {f : (gMem × σ) → Option ((gMem × σ) ⊕ β)} (h : ∀ M s, mT M = T → mL M = L → PW (QS T L Q) (f (M, s))) : ∀ n M s, mT M = T → mL M = L → PW Q (lpN f n (M, s)) := sorry

theorem pw_lp {σ β : Type} {T L : Nat → Nat} {Q : β → Prop} {f : (gMem × σ) → Option ((gMem × σ) ⊕ β)} {M : gMem} {s : σ} (hT : mT M = T) (hL : mL M = L) (h : ∀ M s, mT M = T → mL M = L → PW (QS T L Q) (f (M, s))) : PW Q (lp f (M, s)) := sorry

theorem pr_bb_X3_allFish_4 {T L : Nat → Nat} {M : gMem} {x0 : Nat} {x1 : Int32} {x2 : Int32} (hT : mT M = T) (hL : mL M = L) : PW (QS T L (QR T L)) (bb_X3_allFish_4 M x0 x1 x2) := sorry

theorem pr_lp_X3_allFish_4 {T L : Nat → Nat} {M : gMem} {x0 : Nat} {x1 : Int32} {x2 : Int32} (hT : mT M = T) (hL : mL M = L) : PW (QR T L) (lp_X3_allFish_4 M x0 x1 x2) := sorry

theorem pr_b_X3_allFish_0 {T L : Nat → Nat} {M : gMem} {x0 : Nat} (hT : mT M = T) (hL : mL M = L) : PW (QR T L) (b_X3_allFish_0 M x0) := sorry

theorem pr_f_X3_allFish {T L : Nat → Nat} {M : gMem} {x0 : Nat} (hT : mT M = T) (hL : mL M = L) : PW (QR T L) (f_X3_allFish M x0) := sorry

set_option maxRecDepth 100000 in
theorem pr_bb_X3_grow_2 {T L : Nat → Nat} {M : gMem} {x0 : Nat} {x1 : Int32} (hT : mT M = T) (hL : mL M = L) : PW (QS T L (QR T L)) (bb_X3_grow_2 M x0 x1) := sorry

theorem pr_lp_X3_grow_2 {T L : Nat → Nat} {M : gMem} {x0 : Nat} {x1 : Int32} (hT : mT M = T) (hL : mL M = L) : PW (QR T L) (lp_X3_grow_2 M x0 x1) := sorry

theorem pr_b_X3_grow_0 {T L : Nat → Nat} {M : gMem} {x0 : Nat} (hT : mT M = T) (hL : mL M = L) : PW (QR T L) (b_X3_grow_0 M x0) := sorry

theorem pr_f_X3_grow {T L : Nat → Nat} {M : gMem} {x0 : Nat} (hT : mT M = T) (hL : mL M = L) : PW (QR T L) (f_X3_grow M x0) := sorry

theorem pr_bb_X3_copyFrom_26 {T L : Nat → Nat} {M : gMem} {x0 : Nat} {x1 : Option Nat} {x2 : Int32} (hT : mT M = T) (hL : mL M = L) : PW (QS T L (QR T L)) (bb_X3_copyFrom_26 M x0 x1 x2) := sorry

theorem pr_lp_X3_copyFrom_26 {T L : Nat → Nat} {M : gMem} {x0 : Nat} {x1 : Option Nat} {x2 : Int32} (hT : mT M = T) (hL : mL M = L) : PW (QR T L) (lp_X3_copyFrom_26 M x0 x1 x2) := sorry

theorem pr_b_X3_copyFrom_0 {T L : Nat → Nat} {M : gMem} {x0 : Nat} {x1 : Option Nat} (hT : mT M = T) (hL : mL M = L) : PW (QR T L) (b_X3_copyFrom_0 M x0 x1) := sorry

theorem pr_f_X3_copyFrom {T L : Nat → Nat} {M : gMem} {x0 : Nat} {x1 : Option Nat} (hT : mT M = T) (hL : mL M = L) : PW (QR T L) (f_X3_copyFrom M x0 x1) := sorry

theorem pr_b_X1_tear_0 {T L : Nat → Nat} {M : gMem} {x0 : Nat} (hT : mT M = T) (hL : mL M = L) : PW (QR T L) (b_X1_tear_0 M x0) := sorry

theorem pr_f_X1_tear {T L : Nat → Nat} {M : gMem} {x0 : Nat} (hT : mT M = T) (hL : mL M = L) : PW (QR T L) (f_X1_tear M x0) := sorry

theorem pr_bb_X1_copyFrom_82 {T L : Nat → Nat} {M : gMem} {x0 : Nat} {x1 : Option Nat} {x2 : Int32} (hT : mT M = T) (hL : mL M = L) : PW (QS T L (QR T L)) (bb_X1_copyFrom_82 M x0 x1 x2) := sorry

theorem pr_lp_X1_copyFrom_82 {T L : Nat → Nat} {M : gMem} {x0 : Nat} {x1 : Option Nat} {x2 : Int32} (hT : mT M = T) (hL : mL M = L) : PW (QR T L) (lp_X1_copyFrom_82 M x0 x1 x2) := sorry

theorem pr_b_X1_copyFrom_0 {T L : Nat → Nat} {M : gMem} {x0 : Nat} {x1 : Option Nat} (hT : mT M = T) (hL : mL M = L) : PW (QR T L) (b_X1_copyFrom_0 M x0 x1) := sorry

theorem pr_f_X1_copyFrom {T L : Nat → Nat} {M : gMem} {x0 : Nat} {x1 : Option Nat} (hT : mT M = T) (hL : mL M = L) : PW (QR T L) (f_X1_copyFrom M x0 x1) := sorry

theorem pr_b_X2_copyFrom_0 {T L : Nat → Nat} {M : gMem} {x0 : Nat} {x1 : Option Nat} (hT : mT M = T) (hL : mL M = L) : PW (QR T L) (b_X2_copyFrom_0 M x0 x1) := sorry

theorem pr_f_X2_copyFrom {T L : Nat → Nat} {M : gMem} {x0 : Nat} {x1 : Option Nat} (hT : mT M = T) (hL : mL M = L) : PW (QR T L) (f_X2_copyFrom M x0 x1) := sorry

theorem pr_b_X5_splits_12 {T L : Nat → Nat} {M : gMem} {s0 : Int32} (hT : mT M = T) (hL : mL M = L) : PW (QR T L) (b_X5_splits_12 M s0) := sorry

theorem pr_b_X5_splits_0 {T L : Nat → Nat} {M : gMem} {x0 : Nat} (hT : mT M = T) (hL : mL M = L) : PW (QR T L) (b_X5_splits_0 M x0) := sorry

theorem pr_f_X5_splits {T L : Nat → Nat} {M : gMem} {x0 : Nat} (hT : mT M = T) (hL : mL M = L) : PW (QR T L) (f_X5_splits M x0) := sorry

theorem pr_bb_X5_has_2 {T L : Nat → Nat} {M : gMem} {x0 : Nat} {x1 : Int32} {x2 : Int32} (hT : mT M = T) (hL : mL M = L) : PW (QS T L (QR T L)) (bb_X5_has_2 M x0 x1 x2) := sorry

theorem pr_lp_X5_has_2 {T L : Nat → Nat} {M : gMem} {x0 : Nat} {x1 : Int32} {x2 : Int32} (hT : mT M = T) (hL : mL M = L) : PW (QR T L) (lp_X5_has_2 M x0 x1 x2) := sorry

theorem pr_b_X5_has_0 {T L : Nat → Nat} {M : gMem} {x0 : Nat} {x1 : Int32} (hT : mT M = T) (hL : mL M = L) : PW (QR T L) (b_X5_has_0 M x0 x1) := sorry

theorem pr_f_X5_has {T L : Nat → Nat} {M : gMem} {x0 : Nat} {x1 : Int32} (hT : mT M = T) (hL : mL M = L) : PW (QR T L) (f_X5_has M x0 x1) := sorry

theorem pr_bb_X5_copyFrom_58 {T L : Nat → Nat} {M : gMem} {x0 : Nat} {x1 : Option Nat} {x2 : Int32} (hT : mT M = T) (hL : mL M = L) : PW (QS T L (QR T L)) (bb_X5_copyFrom_58 M x0 x1 x2) := sorry

theorem pr_lp_X5_copyFrom_58 {T L : Nat → Nat} {M : gMem} {x0 : Nat} {x1 : Option Nat} {x2 : Int32} (hT : mT M = T) (hL : mL M = L) : PW (QR T L) (lp_X5_copyFrom_58 M x0 x1 x2) := sorry

theorem pr_b_X5_copyFrom_0 {T L : Nat → Nat} {M : gMem} {x0 : Nat} {x1 : Option Nat} (hT : mT M = T) (hL : mL M = L) : PW (QR T L) (b_X5_copyFrom_0 M x0 x1) := sorry

theorem pr_f_X5_copyFrom {T L : Nat → Nat} {M : gMem} {x0 : Nat} {x1 : Option Nat} (hT : mT M = T) (hL : mL M = L) : PW (QR T L) (f_X5_copyFrom M x0 x1) := sorry

theorem pr_bb_X9_copyFrom_10 {T L : Nat → Nat} {Z : Nat → Nat} {M : gMem} {x0 : Nat} {x1 : Option Nat} {x2 : Int32} (hT : mT M = T) (hL : mL M = L) : PW (QS T L (QR T L)) (bb_X9_copyFrom_10 Z M x0 x1 x2) := sorry

theorem pr_lp_X9_copyFrom_10 {T L : Nat → Nat} {Z : Nat → Nat} {M : gMem} {x0 : Nat} {x1 : Option Nat} {x2 : Int32} (hT : mT M = T) (hL : mL M = L) : PW (QR T L) (lp_X9_copyFrom_10 Z M x0 x1 x2) := sorry

theorem pr_b_X9_copyFrom_0 {T L : Nat → Nat} {Z : Nat → Nat} {M : gMem} {x0 : Nat} {x1 : Option Nat} (hT : mT M = T) (hL : mL M = L) : PW (QR T L) (b_X9_copyFrom_0 Z M x0 x1) := sorry

theorem pr_f_X9_copyFrom {T L : Nat → Nat} {Z : Nat → Nat} {M : gMem} {x0 : Nat} {x1 : Option Nat} (hT : mT M = T) (hL : mL M = L) : PW (QR T L) (f_X9_copyFrom Z M x0 x1) := sorry

theorem pr_b_X9_valueOn_149 {T L : Nat → Nat} {Z : Nat → Nat} {M : gMem} {x2 : Int32} (hT : mT M = T) (hL : mL M = L) : PW (QR T L) (b_X9_valueOn_149 Z M x2) := sorry

theorem pr_b_X9_valueOn_128 {T L : Nat → Nat} {Z : Nat → Nat} {M : gMem} {s0 : Int32} (hT : mT M = T) (hL : mL M = L) : PW (QR T L) (b_X9_valueOn_128 Z M s0) := sorry

set_option maxRecDepth 100000 in
theorem pr_b_X9_valueOn_0 {T L : Nat → Nat} {Z : Nat → Nat} {M : gMem} {x0 : Option Nat} {x1 : Option Nat} {x2 : Int32} (hT : mT M = T) (hL : mL M = L) : PW (QR T L) (b_X9_valueOn_0 Z M x0 x1 x2) := sorry

theorem pr_f_X9_valueOn {T L : Nat → Nat} {Z : Nat → Nat} {M : gMem} {x0 : Option Nat} {x1 : Option Nat} {x2 : Int32} (hT : mT M = T) (hL : mL M = L) : PW (QR T L) (f_X9_valueOn Z M x0 x1 x2) := sorry

theorem pr_b_X9_combine_211 {T L : Nat → Nat} {Z : Nat → Nat} {M : gMem} (hT : mT M = T) (hL : mL M = L) : PW (QR T L) (b_X9_combine_211 Z M) := sorry

theorem pr_b_X9_combine_210 {T L : Nat → Nat} {Z : Nat → Nat} {M : gMem} {s0 : Int32} (hT : mT M = T) (hL : mL M = L) : PW (QR T L) (b_X9_combine_210 Z M s0) := sorry

theorem pr_b_X9_combine_199 {T L : Nat → Nat} {Z : Nat → Nat} {M : gMem} {s0 : Int32} (hT : mT M = T) (hL : mL M = L) : PW (QR T L) (b_X9_combine_199 Z M s0) := sorry

theorem pr_b_X9_combine_188 {T L : Nat → Nat} {Z : Nat → Nat} {M : gMem} {s0 : Int32} (hT : mT M = T) (hL : mL M = L) : PW (QR T L) (b_X9_combine_188 Z M s0) := sorry

theorem pr_b_X9_combine_177 {T L : Nat → Nat} {Z : Nat → Nat} {M : gMem} {s0 : Int32} (hT : mT M = T) (hL : mL M = L) : PW (QR T L) (b_X9_combine_177 Z M s0) := sorry

theorem pr_b_X9_combine_166 {T L : Nat → Nat} {Z : Nat → Nat} {M : gMem} {s0 : Int32} (hT : mT M = T) (hL : mL M = L) : PW (QR T L) (b_X9_combine_166 Z M s0) := sorry

theorem pr_b_X9_combine_135 {T L : Nat → Nat} {Z : Nat → Nat} {M : gMem} {s0 : Int32} (hT : mT M = T) (hL : mL M = L) : PW (QR T L) (b_X9_combine_135 Z M s0) := sorry

set_option maxRecDepth 100000 in
theorem pr_b_X9_combine_0 {T L : Nat → Nat} {Z : Nat → Nat} {M : gMem} {x0 : Option Nat} {x1 : Int32} {x2 : Int32} (hT : mT M = T) (hL : mL M = L) : PW (QR T L) (b_X9_combine_0 Z M x0 x1 x2) := sorry

theorem pr_f_X9_combine {T L : Nat → Nat} {Z : Nat → Nat} {M : gMem} {x0 : Option Nat} {x1 : Int32} {x2 : Int32} (hT : mT M = T) (hL : mL M = L) : PW (QR T L) (f_X9_combine Z M x0 x1 x2) := sorry

set_option maxRecDepth 100000 in
theorem pr_b_X9_reckon_289 {T L : Nat → Nat} {Z : Nat → Nat} {M : gMem} {s0 : Int32} (hT : mT M = T) (hL : mL M = L) : PW (QR T L) (b_X9_reckon_289 Z M s0) := sorry

set_option maxRecDepth 100000 in
theorem pr_b_X9_reckon_274 {T L : Nat → Nat} {Z : Nat → Nat} {M : gMem} {x0 : Nat} {x4 : Int32} (hT : mT M = T) (hL : mL M = L) : PW (QR T L) (b_X9_reckon_274 Z M x0 x4) := sorry

set_option maxRecDepth 100000 in
theorem pr_b_X9_reckon_268 {T L : Nat → Nat} {Z : Nat → Nat} {M : gMem} {x0 : Nat} {x2 : Int32} {x3 : Option Nat} {x4 : Int32} {x5 : Int32} (hT : mT M = T) (hL : mL M = L) : PW (QS T L (QR T L)) (b_X9_reckon_268 Z M x0 x2 x3 x4 x5) := sorry

set_option maxRecDepth 100000 in
theorem pr_b_X9_reckon_224 {T L : Nat → Nat} {Z : Nat → Nat} {M : gMem} {x0 : Nat} {x2 : Int32} {x3 : Option Nat} {x4 : Int32} {x5 : Int32} (hT : mT M = T) (hL : mL M = L) : PW (QS T L (QR T L)) (b_X9_reckon_224 Z M x0 x2 x3 x4 x5) := sorry

set_option maxRecDepth 100000 in
theorem pr_b_X9_reckon_220 {T L : Nat → Nat} {Z : Nat → Nat} {M : gMem} {x0 : Nat} {x2 : Int32} {x3 : Option Nat} {x4 : Int32} {x5 : Int32} {s0 : Option Nat} {s1 : Int32} {s2 : Int32} (hT : mT M = T) (hL : mL M = L) : PW (QS T L (QR T L)) (b_X9_reckon_220 Z M x0 x2 x3 x4 x5 s0 s1 s2) := sorry

set_option maxRecDepth 100000 in
theorem pr_b_X9_reckon_169 {T L : Nat → Nat} {Z : Nat → Nat} {M : gMem} {x0 : Nat} {x2 : Int32} {x3 : Option Nat} {x4 : Int32} {x5 : Int32} (hT : mT M = T) (hL : mL M = L) : PW (QS T L (QR T L)) (b_X9_reckon_169 Z M x0 x2 x3 x4 x5) := sorry

set_option maxRecDepth 100000 in
theorem pr_b_X9_reckon_128 {T L : Nat → Nat} {Z : Nat → Nat} {M : gMem} {x0 : Nat} {x2 : Int32} {x3 : Option Nat} {x4 : Int32} {x5 : Int32} (hT : mT M = T) (hL : mL M = L) : PW (QS T L (QR T L)) (b_X9_reckon_128 Z M x0 x2 x3 x4 x5) := sorry

set_option maxRecDepth 100000 in
theorem pr_bb_X9_reckon_6 {T L : Nat → Nat} {Z : Nat → Nat} {M : gMem} {x0 : Nat} {x2 : Int32} {x3 : Option Nat} {x4 : Int32} {x5 : Int32} (hT : mT M = T) (hL : mL M = L) : PW (QS T L (QR T L)) (bb_X9_reckon_6 Z M x0 x2 x3 x4 x5) := sorry

theorem pr_lp_X9_reckon_6 {T L : Nat → Nat} {Z : Nat → Nat} {M : gMem} {x0 : Nat} {x2 : Int32} {x3 : Option Nat} {x4 : Int32} {x5 : Int32} (hT : mT M = T) (hL : mL M = L) : PW (QR T L) (lp_X9_reckon_6 Z M x0 x2 x3 x4 x5) := sorry

set_option maxRecDepth 100000 in
theorem pr_b_X9_reckon_0 {T L : Nat → Nat} {Z : Nat → Nat} {M : gMem} {x0 : Nat} {x1 : Int32} {x2 : Int32} {x3 : Option Nat} (hT : mT M = T) (hL : mL M = L) : PW (QR T L) (b_X9_reckon_0 Z M x0 x1 x2 x3) := sorry

set_option maxRecDepth 100000 in
theorem pr_f_X9_reckon {T L : Nat → Nat} {Z : Nat → Nat} {M : gMem} {x0 : Nat} {x1 : Int32} {x2 : Int32} {x3 : Option Nat} (hT : mT M = T) (hL : mL M = L) : PW (QR T L) (f_X9_reckon Z M x0 x1 x2 x3) := sorry

theorem pr_bb_X7_copyFrom_143 {T L : Nat → Nat} {Z : Nat → Nat} {M : gMem} {x0 : Nat} {x1 : Option Nat} {x2 : Int32} (hT : mT M = T) (hL : mL M = L) : PW (QS T L (QR T L)) (bb_X7_copyFrom_143 Z M x0 x1 x2) := sorry

theorem pr_lp_X7_copyFrom_143 {T L : Nat → Nat} {Z : Nat → Nat} {M : gMem} {x0 : Nat} {x1 : Option Nat} {x2 : Int32} (hT : mT M = T) (hL : mL M = L) : PW (QR T L) (lp_X7_copyFrom_143 Z M x0 x1 x2) := sorry

theorem pr_bb_X7_copyFrom_112 {T L : Nat → Nat} {Z : Nat → Nat} {M : gMem} {x0 : Nat} {x1 : Option Nat} {x2 : Int32} (hT : mT M = T) (hL : mL M = L) : PW (QS T L (QR T L)) (bb_X7_copyFrom_112 Z M x0 x1 x2) := sorry

theorem pr_lp_X7_copyFrom_112 {T L : Nat → Nat} {Z : Nat → Nat} {M : gMem} {x0 : Nat} {x1 : Option Nat} {x2 : Int32} (hT : mT M = T) (hL : mL M = L) : PW (QR T L) (lp_X7_copyFrom_112 Z M x0 x1 x2) := sorry

theorem pr_bb_X7_copyFrom_81 {T L : Nat → Nat} {Z : Nat → Nat} {M : gMem} {x0 : Nat} {x1 : Option Nat} {x2 : Int32} (hT : mT M = T) (hL : mL M = L) : PW (QS T L (QR T L)) (bb_X7_copyFrom_81 Z M x0 x1 x2) := sorry

theorem pr_lp_X7_copyFrom_81 {T L : Nat → Nat} {Z : Nat → Nat} {M : gMem} {x0 : Nat} {x1 : Option Nat} {x2 : Int32} (hT : mT M = T) (hL : mL M = L) : PW (QR T L) (lp_X7_copyFrom_81 Z M x0 x1 x2) := sorry

theorem pr_bb_X7_copyFrom_50 {T L : Nat → Nat} {Z : Nat → Nat} {M : gMem} {x0 : Nat} {x1 : Option Nat} {x2 : Int32} (hT : mT M = T) (hL : mL M = L) : PW (QS T L (QR T L)) (bb_X7_copyFrom_50 Z M x0 x1 x2) := sorry

theorem pr_lp_X7_copyFrom_50 {T L : Nat → Nat} {Z : Nat → Nat} {M : gMem} {x0 : Nat} {x1 : Option Nat} {x2 : Int32} (hT : mT M = T) (hL : mL M = L) : PW (QR T L) (lp_X7_copyFrom_50 Z M x0 x1 x2) := sorry

theorem pr_b_X7_copyFrom_0 {T L : Nat → Nat} {Z : Nat → Nat} {M : gMem} {x0 : Nat} {x1 : Option Nat} (hT : mT M = T) (hL : mL M = L) : PW (QR T L) (b_X7_copyFrom_0 Z M x0 x1) := sorry

theorem pr_f_X7_copyFrom {T L : Nat → Nat} {Z : Nat → Nat} {M : gMem} {x0 : Nat} {x1 : Option Nat} (hT : mT M = T) (hL : mL M = L) : PW (QR T L) (f_X7_copyFrom Z M x0 x1) := sorry

theorem pr_bb_X7_allFish_4 {T L : Nat → Nat} {M : gMem} {x0 : Nat} {x1 : Int32} {x2 : Int32} (hT : mT M = T) (hL : mL M = L) : PW (QS T L (QR T L)) (bb_X7_allFish_4 M x0 x1 x2) := sorry

theorem pr_lp_X7_allFish_4 {T L : Nat → Nat} {M : gMem} {x0 : Nat} {x1 : Int32} {x2 : Int32} (hT : mT M = T) (hL : mL M = L) : PW (QR T L) (lp_X7_allFish_4 M x0 x1 x2) := sorry

theorem pr_b_X7_allFish_0 {T L : Nat → Nat} {M : gMem} {x0 : Nat} (hT : mT M = T) (hL : mL M = L) : PW (QR T L) (b_X7_allFish_0 M x0) := sorry

theorem pr_f_X7_allFish {T L : Nat → Nat} {M : gMem} {x0 : Nat} (hT : mT M = T) (hL : mL M = L) : PW (QR T L) (f_X7_allFish M x0) := sorry

theorem pr_bb_X7_allStores_4 {T L : Nat → Nat} {M : gMem} {x0 : Nat} {x1 : Int32} {x2 : Int32} (hT : mT M = T) (hL : mL M = L) : PW (QS T L (QR T L)) (bb_X7_allStores_4 M x0 x1 x2) := sorry

theorem pr_lp_X7_allStores_4 {T L : Nat → Nat} {M : gMem} {x0 : Nat} {x1 : Int32} {x2 : Int32} (hT : mT M = T) (hL : mL M = L) : PW (QR T L) (lp_X7_allStores_4 M x0 x1 x2) := sorry

theorem pr_b_X7_allStores_0 {T L : Nat → Nat} {M : gMem} {x0 : Nat} (hT : mT M = T) (hL : mL M = L) : PW (QR T L) (b_X7_allStores_0 M x0) := sorry

theorem pr_f_X7_allStores {T L : Nat → Nat} {M : gMem} {x0 : Nat} (hT : mT M = T) (hL : mL M = L) : PW (QR T L) (f_X7_allStores M x0) := sorry

theorem pr_b_X7_widenedNets_39 {T L : Nat → Nat} {M : gMem} {x0 : Nat} {x2 : Int32} {s0 : Int32} {s1 : Int32} (hT : mT M = T) (hL : mL M = L) : PW (QS T L (QR T L)) (b_X7_widenedNets_39 M x0 x2 s0 s1) := sorry

theorem pr_bb_X7_widenedNets_4 {T L : Nat → Nat} {M : gMem} {x0 : Nat} {x1 : Int32} {x2 : Int32} (hT : mT M = T) (hL : mL M = L) : PW (QS T L (QR T L)) (bb_X7_widenedNets_4 M x0 x1 x2) := sorry

theorem pr_lp_X7_widenedNets_4 {T L : Nat → Nat} {M : gMem} {x0 : Nat} {x1 : Int32} {x2 : Int32} (hT : mT M = T) (hL : mL M = L) : PW (QR T L) (lp_X7_widenedNets_4 M x0 x1 x2) := sorry

theorem pr_b_X7_widenedNets_0 {T L : Nat → Nat} {M : gMem} {x0 : Nat} (hT : mT M = T) (hL : mL M = L) : PW (QR T L) (b_X7_widenedNets_0 M x0) := sorry

theorem pr_f_X7_widenedNets {T L : Nat → Nat} {M : gMem} {x0 : Nat} (hT : mT M = T) (hL : mL M = L) : PW (QR T L) (f_X7_widenedNets M x0) := sorry

theorem pr_b_X7_allCheats_30 {T L : Nat → Nat} {M : gMem} {x0 : Nat} {x2 : Int32} {s0 : Int32} {s1 : Int32} (hT : mT M = T) (hL : mL M = L) : PW (QS T L (QR T L)) (b_X7_allCheats_30 M x0 x2 s0 s1) := sorry

theorem pr_bb_X7_allCheats_4 {T L : Nat → Nat} {M : gMem} {x0 : Nat} {x1 : Int32} {x2 : Int32} (hT : mT M = T) (hL : mL M = L) : PW (QS T L (QR T L)) (bb_X7_allCheats_4 M x0 x1 x2) := sorry

theorem pr_lp_X7_allCheats_4 {T L : Nat → Nat} {M : gMem} {x0 : Nat} {x1 : Int32} {x2 : Int32} (hT : mT M = T) (hL : mL M = L) : PW (QR T L) (lp_X7_allCheats_4 M x0 x1 x2) := sorry

theorem pr_b_X7_allCheats_0 {T L : Nat → Nat} {M : gMem} {x0 : Nat} (hT : mT M = T) (hL : mL M = L) : PW (QR T L) (b_X7_allCheats_0 M x0) := sorry

theorem pr_f_X7_allCheats {T L : Nat → Nat} {M : gMem} {x0 : Nat} (hT : mT M = T) (hL : mL M = L) : PW (QR T L) (f_X7_allCheats M x0) := sorry

theorem pr_bb_X7_storeGap_23 {T L : Nat → Nat} {M : gMem} {x0 : Nat} {x1 : Int32} {x2 : Int32} {x3 : Int32} (hT : mT M = T) (hL : mL M = L) : PW (QS T L (QR T L)) (bb_X7_storeGap_23 M x0 x1 x2 x3) := sorry

theorem pr_lp_X7_storeGap_23 {T L : Nat → Nat} {M : gMem} {x0 : Nat} {x1 : Int32} {x2 : Int32} {x3 : Int32} (hT : mT M = T) (hL : mL M = L) : PW (QR T L) (lp_X7_storeGap_23 M x0 x1 x2 x3) := sorry

theorem pr_b_X7_storeGap_0 {T L : Nat → Nat} {M : gMem} {x0 : Nat} (hT : mT M = T) (hL : mL M = L) : PW (QR T L) (b_X7_storeGap_0 M x0) := sorry

theorem pr_f_X7_storeGap {T L : Nat → Nat} {M : gMem} {x0 : Nat} (hT : mT M = T) (hL : mL M = L) : PW (QR T L) (f_X7_storeGap M x0) := sorry

theorem pr_bb_X7_drawLots_71 {T L : Nat → Nat} {M : gMem} {x0 : Nat} {x1 : Int32} {x2 : Int32} {x4 : Int32} (hT : mT M = T) (hL : mL M = L) : PW (QS T L (QS T L (QR T L))) (bb_X7_drawLots_71 M x0 x1 x2 x4) := sorry

theorem pr_lp_X7_drawLots_71 {T L : Nat → Nat} {M : gMem} {x0 : Nat} {x1 : Int32} {x2 : Int32} {x4 : Int32} (hT : mT M = T) (hL : mL M = L) : PW (QS T L (QR T L)) (lp_X7_drawLots_71 M x0 x1 x2 x4) := sorry

theorem pr_bb_X7_drawLots_33 {T L : Nat → Nat} {M : gMem} {x0 : Nat} {x1 : Int32} {x2 : Int32} (hT : mT M = T) (hL : mL M = L) : PW (QS T L (QR T L)) (bb_X7_drawLots_33 M x0 x1 x2) := sorry

theorem pr_lp_X7_drawLots_33 {T L : Nat → Nat} {M : gMem} {x0 : Nat} {x1 : Int32} {x2 : Int32} (hT : mT M = T) (hL : mL M = L) : PW (QR T L) (lp_X7_drawLots_33 M x0 x1 x2) := sorry

theorem pr_bb_X7_drawLots_7 {T L : Nat → Nat} {M : gMem} {x0 : Nat} {x1 : Int32} {x2 : Int32} (hT : mT M = T) (hL : mL M = L) : PW (QS T L (QR T L)) (bb_X7_drawLots_7 M x0 x1 x2) := sorry

theorem pr_lp_X7_drawLots_7 {T L : Nat → Nat} {M : gMem} {x0 : Nat} {x1 : Int32} {x2 : Int32} (hT : mT M = T) (hL : mL M = L) : PW (QR T L) (lp_X7_drawLots_7 M x0 x1 x2) := sorry

theorem pr_b_X7_drawLots_0 {T L : Nat → Nat} {M : gMem} {x0 : Nat} (hT : mT M = T) (hL : mL M = L) : PW (QR T L) (b_X7_drawLots_0 M x0) := sorry

theorem pr_f_X7_drawLots {T L : Nat → Nat} {M : gMem} {x0 : Nat} (hT : mT M = T) (hL : mL M = L) : PW (QR T L) (f_X7_drawLots M x0) := sorry

theorem pr_bb_X7_callBoatsHome_2 {T L : Nat → Nat} {M : gMem} {x0 : Nat} {x1 : Int32} (hT : mT M = T) (hL : mL M = L) : PW (QS T L (QR T L)) (bb_X7_callBoatsHome_2 M x0 x1) := sorry

theorem pr_lp_X7_callBoatsHome_2 {T L : Nat → Nat} {M : gMem} {x0 : Nat} {x1 : Int32} (hT : mT M = T) (hL : mL M = L) : PW (QR T L) (lp_X7_callBoatsHome_2 M x0 x1) := sorry

theorem pr_b_X7_callBoatsHome_0 {T L : Nat → Nat} {M : gMem} {x0 : Nat} (hT : mT M = T) (hL : mL M = L) : PW (QR T L) (b_X7_callBoatsHome_0 M x0) := sorry

theorem pr_f_X7_callBoatsHome {T L : Nat → Nat} {M : gMem} {x0 : Nat} (hT : mT M = T) (hL : mL M = L) : PW (QR T L) (f_X7_callBoatsHome M x0) := sorry

theorem pr_b_X7_isSpared_82 {T L : Nat → Nat} {Z : Nat → Nat} {M : gMem} {x0 : Nat} {x1 : Int32} {x2 : Int32} {x3 : Int32} (hT : mT M = T) (hL : mL M = L) : PW (QS T L (QR T L)) (b_X7_isSpared_82 Z M x0 x1 x2 x3) := sorry

theorem pr_bb_X7_isSpared_16 {T L : Nat → Nat} {Z : Nat → Nat} {M : gMem} {x0 : Nat} {x1 : Int32} {x2 : Int32} {x3 : Int32} (hT : mT M = T) (hL : mL M = L) : PW (QS T L (QR T L)) (bb_X7_isSpared_16 Z M x0 x1 x2 x3) := sorry

theorem pr_lp_X7_isSpared_16 {T L : Nat → Nat} {Z : Nat → Nat} {M : gMem} {x0 : Nat} {x1 : Int32} {x2 : Int32} {x3 : Int32} (hT : mT M = T) (hL : mL M = L) : PW (QR T L) (lp_X7_isSpared_16 Z M x0 x1 x2 x3) := sorry

theorem pr_b_X7_isSpared_0 {T L : Nat → Nat} {Z : Nat → Nat} {M : gMem} {x0 : Nat} {x1 : Int32} {x2 : Int32} (hT : mT M = T) (hL : mL M = L) : PW (QR T L) (b_X7_isSpared_0 Z M x0 x1 x2) := sorry

theorem pr_f_X7_isSpared {T L : Nat → Nat} {Z : Nat → Nat} {M : gMem} {x0 : Nat} {x1 : Int32} {x2 : Int32} (hT : mT M = T) (hL : mL M = L) : PW (QR T L) (f_X7_isSpared Z M x0 x1 x2) := sorry

theorem pr_b_X7_firstGo_114 {T L : Nat → Nat} {Z : Nat → Nat} {M : gMem} {x0 : Nat} {x1 : Int32} {x2 : Int32} (hT : mT M = T) (hL : mL M = L) : PW (QS T L (QR T L)) (b_X7_firstGo_114 Z M x0 x1 x2) := sorry

theorem pr_b_X7_firstGo_90 {T L : Nat → Nat} {Z : Nat → Nat} {M : gMem} {x0 : Nat} {x1 : Int32} {x2 : Int32} {x3 : Option Nat} {s0 : Int32} (hT : mT M = T) (hL : mL M = L) : PW (QS T L (QR T L)) (b_X7_firstGo_90 Z M x0 x1 x2 x3 s0) := sorry

theorem pr_b_X7_firstGo_85 {T L : Nat → Nat} {Z : Nat → Nat} {M : gMem} {x0 : Nat} {x1 : Int32} {x2 : Int32} {x3 : Option Nat} (hT : mT M = T) (hL : mL M = L) : PW (QS T L (QR T L)) (b_X7_firstGo_85 Z M x0 x1 x2 x3) := sorry

set_option maxRecDepth 100000 in
theorem pr_bb_X7_firstGo_2 {T L : Nat → Nat} {Z : Nat → Nat} {M : gMem} {x0 : Nat} {x1 : Int32} {x2 : Int32} (hT : mT M = T) (hL : mL M = L) : PW (QS T L (QR T L)) (bb_X7_firstGo_2 Z M x0 x1 x2) := sorry

theorem pr_lp_X7_firstGo_2 {T L : Nat → Nat} {Z : Nat → Nat} {M : gMem} {x0 : Nat} {x1 : Int32} {x2 : Int32} (hT : mT M = T) (hL : mL M = L) : PW (QR T L) (lp_X7_firstGo_2 Z M x0 x1 x2) := sorry

theorem pr_b_X7_firstGo_0 {T L : Nat → Nat} {Z : Nat → Nat} {M : gMem} {x0 : Nat} {x1 : Int32} (hT : mT M = T) (hL : mL M = L) : PW (QR T L) (b_X7_firstGo_0 Z M x0 x1) := sorry

theorem pr_f_X7_firstGo {T L : Nat → Nat} {Z : Nat → Nat} {M : gMem} {x0 : Nat} {x1 : Int32} (hT : mT M = T) (hL : mL M = L) : PW (QR T L) (f_X7_firstGo Z M x0 x1) := sorry

theorem pr_b_X7_haulFrom_148 {T L : Nat → Nat} {M : gMem} (hT : mT M = T) (hL : mL M = L) : PW (QR T L) (b_X7_haulFrom_148 M) := sorry

theorem pr_b_X7_haulFrom_133 {T L : Nat → Nat} {M : gMem} {x0 : Nat} {x1 : Option Nat} {x2 : Option Nat} {x3 : Int32} {x4 : Int32} {x5 : Int32} {x6 : Int32} {x7 : Int32} (hT : mT M = T) (hL : mL M = L) : PW (QS T L (QR T L)) (b_X7_haulFrom_133 M x0 x1 x2 x3 x4 x5 x6 x7) := sorry

theorem pr_b_X7_haulFrom_105 {T L : Nat → Nat} {M : gMem} {x0 : Nat} {x1 : Option Nat} {x2 : Option Nat} {x3 : Int32} {x4 : Int32} {x5 : Int32} {x6 : Int32} {x7 : Int32} {s0 : Option Nat} {s1 : Int32} {s2 : Int32} (hT : mT M = T) (hL : mL M = L) : PW (QS T L (QR T L)) (b_X7_haulFrom_105 M x0 x1 x2 x3 x4 x5 x6 x7 s0 s1 s2) := sorry

theorem pr_b_X7_haulFrom_85 {T L : Nat → Nat} {M : gMem} {x0 : Nat} {x1 : Option Nat} {x2 : Option Nat} {x3 : Int32} {x4 : Int32} {x5 : Int32} {x7 : Int32} {x8 : Int32} {x9 : Int32} {s0 : Int32} (hT : mT M = T) (hL : mL M = L) : PW (QS T L (QR T L)) (b_X7_haulFrom_85 M x0 x1 x2 x3 x4 x5 x7 x8 x9 s0) := sorry

set_option maxRecDepth 100000 in
theorem pr_bb_X7_haulFrom_17 {T L : Nat → Nat} {M : gMem} {x0 : Nat} {x1 : Option Nat} {x2 : Option Nat} {x3 : Int32} {x4 : Int32} {x5 : Int32} {x6 : Int32} {x7 : Int32} (hT : mT M = T) (hL : mL M = L) : PW (QS T L (QR T L)) (bb_X7_haulFrom_17 M x0 x1 x2 x3 x4 x5 x6 x7) := sorry

theorem pr_lp_X7_haulFrom_17 {T L : Nat → Nat} {M : gMem} {x0 : Nat} {x1 : Option Nat} {x2 : Option Nat} {x3 : Int32} {x4 : Int32} {x5 : Int32} {x6 : Int32} {x7 : Int32} (hT : mT M = T) (hL : mL M = L) : PW (QR T L) (lp_X7_haulFrom_17 M x0 x1 x2 x3 x4 x5 x6 x7) := sorry

theorem pr_b_X7_haulFrom_0 {T L : Nat → Nat} {M : gMem} {x0 : Nat} {x1 : Option Nat} {x2 : Option Nat} (hT : mT M = T) (hL : mL M = L) : PW (QR T L) (b_X7_haulFrom_0 M x0 x1 x2) := sorry

theorem pr_f_X7_haulFrom {T L : Nat → Nat} {M : gMem} {x0 : Nat} {x1 : Option Nat} {x2 : Option Nat} (hT : mT M = T) (hL : mL M = L) : PW (QR T L) (f_X7_haulFrom M x0 x1 x2) := sorry

theorem pr_b_X7_landHaul_66 {T L : Nat → Nat} {M : gMem} {x0 : Nat} {x1 : Option Nat} {x2 : Option Nat} {x3 : Int32} {x4 : Int32} (hT : mT M = T) (hL : mL M = L) : PW (QS T L (QR T L)) (b_X7_landHaul_66 M x0 x1 x2 x3 x4) := sorry

set_option maxRecDepth 100000 in
theorem pr_bb_X7_landHaul_5 {T L : Nat → Nat} {M : gMem} {x0 : Nat} {x1 : Option Nat} {x2 : Option Nat} {x3 : Int32} {x4 : Int32} (hT : mT M = T) (hL : mL M = L) : PW (QS T L (QR T L)) (bb_X7_landHaul_5 M x0 x1 x2 x3 x4) := sorry

theorem pr_lp_X7_landHaul_5 {T L : Nat → Nat} {M : gMem} {x0 : Nat} {x1 : Option Nat} {x2 : Option Nat} {x3 : Int32} {x4 : Int32} (hT : mT M = T) (hL : mL M = L) : PW (QR T L) (lp_X7_landHaul_5 M x0 x1 x2 x3 x4) := sorry

theorem pr_b_X7_landHaul_0 {T L : Nat → Nat} {M : gMem} {x0 : Nat} {x1 : Option Nat} {x2 : Option Nat} (hT : mT M = T) (hL : mL M = L) : PW (QR T L) (b_X7_landHaul_0 M x0 x1 x2) := sorry

theorem pr_f_X7_landHaul {T L : Nat → Nat} {M : gMem} {x0 : Nat} {x1 : Option Nat} {x2 : Option Nat} (hT : mT M = T) (hL : mL M = L) : PW (QR T L) (f_X7_landHaul M x0 x1 x2) := sorry

theorem pr_b_X7_sail_67 {T L : Nat → Nat} {M : gMem} (hT : mT M = T) (hL : mL M = L) : PW (QR T L) (b_X7_sail_67 M) := sorry

set_option maxRecDepth 100000 in
theorem pr_b_X7_sail_0 {T L : Nat → Nat} {M : gMem} {x0 : Nat} {x1 : Int32} {x2 : Int32} (hT : mT M = T) (hL : mL M = L) : PW (QR T L) (b_X7_sail_0 M x0 x1 x2) := sorry

theorem pr_f_X7_sail {T L : Nat → Nat} {M : gMem} {x0 : Nat} {x1 : Int32} {x2 : Int32} (hT : mT M = T) (hL : mL M = L) : PW (QR T L) (f_X7_sail M x0 x1 x2) := sorry

theorem pr_b_X7_split_212 {T L : Nat → Nat} {M : gMem} {s0 : Option Nat} {s1 : Int32} {s2 : Int32} (hT : mT M = T) (hL : mL M = L) : PW (QR T L) (b_X7_split_212 M s0 s1 s2) := sorry

set_option maxRecDepth 100000 in
theorem pr_bb_X7_split_113 {T L : Nat → Nat} {M : gMem} {x0 : Nat} {x1 : Option Nat} {x2 : Int32} {x3 : Int32} {x4 : Int32} {x5 : Int32} (hT : mT M = T) (hL : mL M = L) : PW (QS T L (QR T L)) (bb_X7_split_113 M x0 x1 x2 x3 x4 x5) := sorry

theorem pr_lp_X7_split_113 {T L : Nat → Nat} {M : gMem} {x0 : Nat} {x1 : Option Nat} {x2 : Int32} {x3 : Int32} {x4 : Int32} {x5 : Int32} (hT : mT M = T) (hL : mL M = L) : PW (QR T L) (lp_X7_split_113 M x0 x1 x2 x3 x4 x5) := sorry

theorem pr_b_X7_split_69 {T L : Nat → Nat} {M : gMem} {x0 : Nat} {x1 : Option Nat} {x2 : Int32} {x3 : Int32} {x4 : Int32} {x5 : Option Nat} {s0 : Int32} (hT : mT M = T) (hL : mL M = L) : PW (QS T L (QR T L)) (b_X7_split_69 M x0 x1 x2 x3 x4 x5 s0) := sorry

theorem pr_bb_X7_split_23 {T L : Nat → Nat} {M : gMem} {x0 : Nat} {x1 : Option Nat} {x2 : Int32} {x3 : Int32} {x4 : Int32} (hT : mT M = T) (hL : mL M = L) : PW (QS T L (QR T L)) (bb_X7_split_23 M x0 x1 x2 x3 x4) := sorry

theorem pr_lp_X7_split_23 {T L : Nat → Nat} {M : gMem} {x0 : Nat} {x1 : Option Nat} {x2 : Int32} {x3 : Int32} {x4 : Int32} (hT : mT M = T) (hL : mL M = L) : PW (QR T L) (lp_X7_split_23 M x0 x1 x2 x3 x4) := sorry

theorem pr_b_X7_split_15 {T L : Nat → Nat} {M : gMem} (hT : mT M = T) (hL : mL M = L) : PW (QR T L) (b_X7_split_15 M) := sorry

theorem pr_b_X7_split_0 {T L : Nat → Nat} {M : gMem} {x0 : Nat} {x1 : Option Nat} (hT : mT M = T) (hL : mL M = L) : PW (QR T L) (b_X7_split_0 M x0 x1) := sorry

theorem pr_f_X7_split {T L : Nat → Nat} {M : gMem} {x0 : Nat} {x1 : Option Nat} (hT : mT M = T) (hL : mL M = L) : PW (QR T L) (f_X7_split M x0 x1) := sorry

theorem pr_bb_X7_storeCatches_4 {T L : Nat → Nat} {M : gMem} {x0 : Nat} {x1 : Int32} {x2 : Int32} (hT : mT M = T) (hL : mL M = L) : PW (QS T L (QR T L)) (bb_X7_storeCatches_4 M x0 x1 x2) := sorry

theorem pr_lp_X7_storeCatches_4 {T L : Nat → Nat} {M : gMem} {x0 : Nat} {x1 : Int32} {x2 : Int32} (hT : mT M = T) (hL : mL M = L) : PW (QR T L) (lp_X7_storeCatches_4 M x0 x1 x2) := sorry

theorem pr_b_X7_storeCatches_0 {T L : Nat → Nat} {M : gMem} {x0 : Nat} (hT : mT M = T) (hL : mL M = L) : PW (QR T L) (b_X7_storeCatches_0 M x0) := sorry

theorem pr_f_X7_storeCatches {T L : Nat → Nat} {M : gMem} {x0 : Nat} (hT : mT M = T) (hL : mL M = L) : PW (QR T L) (f_X7_storeCatches M x0) := sorry

theorem pr_bb_X7_passTides_100 {T L : Nat → Nat} {Z : Nat → Nat} {M : gMem} {x0 : Nat} {x1 : Int32} {x2 : Int32} {x3 : Int32} {x4 : Int32} (hT : mT M = T) (hL : mL M = L) : PW (QS T L (QS T L (QR T L))) (bb_X7_passTides_100 Z M x0 x1 x2 x3 x4) := sorry

theorem pr_lp_X7_passTides_100 {T L : Nat → Nat} {Z : Nat → Nat} {M : gMem} {x0 : Nat} {x1 : Int32} {x2 : Int32} {x3 : Int32} {x4 : Int32} (hT : mT M = T) (hL : mL M = L) : PW (QS T L (QR T L)) (lp_X7_passTides_100 Z M x0 x1 x2 x3 x4) := sorry

theorem pr_bb_X7_passTides_64 {T L : Nat → Nat} {Z : Nat → Nat} {M : gMem} {x0 : Nat} {x1 : Int32} {x2 : Int32} {x3 : Int32} {x4 : Int32} (hT : mT M = T) (hL : mL M = L) : PW (QS T L (QS T L (QR T L))) (bb_X7_passTides_64 Z M x0 x1 x2 x3 x4) := sorry

theorem pr_lp_X7_passTides_64 {T L : Nat → Nat} {Z : Nat → Nat} {M : gMem} {x0 : Nat} {x1 : Int32} {x2 : Int32} {x3 : Int32} {x4 : Int32} (hT : mT M = T) (hL : mL M = L) : PW (QS T L (QR T L)) (lp_X7_passTides_64 Z M x0 x1 x2 x3 x4) := sorry

theorem pr_bb_X7_passTides_24 {T L : Nat → Nat} {Z : Nat → Nat} {M : gMem} {x0 : Nat} {x1 : Int32} {x2 : Int32} {x3 : Int32} {x4 : Int32} (hT : mT M = T) (hL : mL M = L) : PW (QS T L (QS T L (QR T L))) (bb_X7_passTides_24 Z M x0 x1 x2 x3 x4) := sorry

theorem pr_lp_X7_passTides_24 {T L : Nat → Nat} {Z : Nat → Nat} {M : gMem} {x0 : Nat} {x1 : Int32} {x2 : Int32} {x3 : Int32} {x4 : Int32} (hT : mT M = T) (hL : mL M = L) : PW (QS T L (QR T L)) (lp_X7_passTides_24 Z M x0 x1 x2 x3 x4) := sorry

theorem pr_bb_X7_passTides_4 {T L : Nat → Nat} {Z : Nat → Nat} {M : gMem} {x0 : Nat} {x1 : Int32} {x2 : Int32} {x3 : Int32} (hT : mT M = T) (hL : mL M = L) : PW (QS T L (QR T L)) (bb_X7_passTides_4 Z M x0 x1 x2 x3) := sorry

theorem pr_lp_X7_passTides_4 {T L : Nat → Nat} {Z : Nat → Nat} {M : gMem} {x0 : Nat} {x1 : Int32} {x2 : Int32} {x3 : Int32} (hT : mT M = T) (hL : mL M = L) : PW (QR T L) (lp_X7_passTides_4 Z M x0 x1 x2 x3) := sorry

theorem pr_b_X7_passTides_0 {T L : Nat → Nat} {Z : Nat → Nat} {M : gMem} {x0 : Nat} {x1 : Int32} (hT : mT M = T) (hL : mL M = L) : PW (QR T L) (b_X7_passTides_0 Z M x0 x1) := sorry

theorem pr_f_X7_passTides {T L : Nat → Nat} {Z : Nat → Nat} {M : gMem} {x0 : Nat} {x1 : Int32} (hT : mT M = T) (hL : mL M = L) : PW (QR T L) (f_X7_passTides Z M x0 x1) := sorry

theorem pr_b_X10_append_42 {T L : Nat → Nat} {M : gMem} {x0 : Nat} {x1 : Int32} {x2 : Int32} (hT : mT M = T) (hL : mL M = L) : PW (QS T L (QR T L)) (b_X10_append_42 M x0 x1 x2) := sorry

theorem pr_bb_X10_append_3 {T L : Nat → Nat} {M : gMem} {x0 : Nat} {x1 : Int32} {x2 : Int32} (hT : mT M = T) (hL : mL M = L) : PW (QS T L (QR T L)) (bb_X10_append_3 M x0 x1 x2) := sorry

theorem pr_lp_X10_append_3 {T L : Nat → Nat} {M : gMem} {x0 : Nat} {x1 : Int32} {x2 : Int32} (hT : mT M = T) (hL : mL M = L) : PW (QR T L) (lp_X10_append_3 M x0 x1 x2) := sorry

theorem pr_b_X10_append_0 {T L : Nat → Nat} {M : gMem} {x0 : Nat} {x1 : Int32} (hT : mT M = T) (hL : mL M = L) : PW (QR T L) (b_X10_append_0 M x0 x1) := sorry

theorem pr_f_X10_append {T L : Nat → Nat} {M : gMem} {x0 : Nat} {x1 : Int32} (hT : mT M = T) (hL : mL M = L) : PW (QR T L) (f_X10_append M x0 x1) := sorry

theorem pr_b_X11_checkGround_15 {T L : Nat → Nat} {M : gMem} (hT : mT M = T) (hL : mL M = L) : PW (QR T L) (b_X11_checkGround_15 M) := sorry

theorem pr_b_X11_checkGround_0 {T L : Nat → Nat} {M : gMem} {x0 : Nat} {x1 : Int32} (hT : mT M = T) (hL : mL M = L) : PW (QR T L) (b_X11_checkGround_0 M x0 x1) := sorry

theorem pr_f_X11_checkGround {T L : Nat → Nat} {M : gMem} {x0 : Nat} {x1 : Int32} (hT : mT M = T) (hL : mL M = L) : PW (QR T L) (f_X11_checkGround M x0 x1) := sorry

theorem pr_b_X11_checkFisher_15 {T L : Nat → Nat} {M : gMem} (hT : mT M = T) (hL : mL M = L) : PW (QR T L) (b_X11_checkFisher_15 M) := sorry

theorem pr_b_X11_checkFisher_0 {T L : Nat → Nat} {M : gMem} {x0 : Nat} {x1 : Int32} (hT : mT M = T) (hL : mL M = L) : PW (QR T L) (b_X11_checkFisher_0 M x0 x1) := sorry

theorem pr_f_X11_checkFisher {T L : Nat → Nat} {M : gMem} {x0 : Nat} {x1 : Int32} (hT : mT M = T) (hL : mL M = L) : PW (QR T L) (f_X11_checkFisher M x0 x1) := sorry

theorem pr_b_X11_checkTides_10 {T L : Nat → Nat} {M : gMem} (hT : mT M = T) (hL : mL M = L) : PW (QR T L) (b_X11_checkTides_10 M) := sorry

theorem pr_b_X11_checkTides_0 {T L : Nat → Nat} {M : gMem} {x0 : Int32} {x1 : Int32} (hT : mT M = T) (hL : mL M = L) : PW (QR T L) (b_X11_checkTides_0 M x0 x1) := sorry

theorem pr_f_X11_checkTides {T L : Nat → Nat} {M : gMem} {x0 : Int32} {x1 : Int32} (hT : mT M = T) (hL : mL M = L) : PW (QR T L) (f_X11_checkTides M x0 x1) := sorry

theorem pr_b_X11_lookAhead_0 {T L : Nat → Nat} {Z : Nat → Nat} {M : gMem} {x0 : Nat} (hT : mT M = T) (hL : mL M = L) : PW (QR T L) (b_X11_lookAhead_0 Z M x0) := sorry

theorem pr_f_X11_lookAhead {T L : Nat → Nat} {Z : Nat → Nat} {M : gMem} {x0 : Nat} (hT : mT M = T) (hL : mL M = L) : PW (QR T L) (f_X11_lookAhead Z M x0) := sorry

theorem pr_b_X11_feed_0 {T L : Nat → Nat} {M : gMem} {x0 : Nat} {x1 : Int32} {x2 : Int32} {x3 : Int32} {x4 : Int32} {x5 : Int32} (hT : mT M = T) (hL : mL M = L) : PW (QR T L) (b_X11_feed_0 M x0 x1 x2 x3 x4 x5) := sorry

theorem pr_f_X11_feed {T L : Nat → Nat} {M : gMem} {x0 : Nat} {x1 : Int32} {x2 : Int32} {x3 : Int32} {x4 : Int32} {x5 : Int32} (hT : mT M = T) (hL : mL M = L) : PW (QR T L) (f_X11_feed M x0 x1 x2 x3 x4 x5) := sorry

theorem pr_b_X11_trim_15 {T L : Nat → Nat} {M : gMem} (hT : mT M = T) (hL : mL M = L) : PW (QR T L) (b_X11_trim_15 M) := sorry

theorem pr_b_X11_trim_0 {T L : Nat → Nat} {M : gMem} {x0 : Nat} {x1 : Int32} (hT : mT M = T) (hL : mL M = L) : PW (QR T L) (b_X11_trim_0 M x0 x1) := sorry

theorem pr_f_X11_trim {T L : Nat → Nat} {M : gMem} {x0 : Nat} {x1 : Int32} (hT : mT M = T) (hL : mL M = L) : PW (QR T L) (f_X11_trim M x0 x1) := sorry

set_option maxRecDepth 100000 in
theorem pr_b_X11_count_0 {T L : Nat → Nat} {M : gMem} {x0 : Nat} {x1 : Int32} (hT : mT M = T) (hL : mL M = L) : PW (QR T L) (b_X11_count_0 M x0 x1) := sorry

theorem pr_f_X11_count {T L : Nat → Nat} {M : gMem} {x0 : Nat} {x1 : Int32} (hT : mT M = T) (hL : mL M = L) : PW (QR T L) (f_X11_count M x0 x1) := sorry

theorem pr_b_X11_ground_73 {T L : Nat → Nat} {M : gMem} {x2 : Int32} {x3 : Option Nat} (hT : mT M = T) (hL : mL M = L) : PW (QR T L) (b_X11_ground_73 M x2 x3) := sorry

set_option maxRecDepth 100000 in
theorem pr_b_X11_ground_0 {T L : Nat → Nat} {M : gMem} {x0 : Nat} {x1 : Int32} {x2 : Int32} (hT : mT M = T) (hL : mL M = L) : PW (QR T L) (b_X11_ground_0 M x0 x1 x2) := sorry

theorem pr_f_X11_ground {T L : Nat → Nat} {M : gMem} {x0 : Nat} {x1 : Int32} {x2 : Int32} (hT : mT M = T) (hL : mL M = L) : PW (QR T L) (f_X11_ground M x0 x1 x2) := sorry

theorem pr_b_X11_fisher_124 {T L : Nat → Nat} {M : gMem} {s0 : Int32} (hT : mT M = T) (hL : mL M = L) : PW (QR T L) (b_X11_fisher_124 M s0) := sorry

set_option maxRecDepth 100000 in
theorem pr_b_X11_fisher_0 {T L : Nat → Nat} {M : gMem} {x0 : Nat} {x1 : Int32} {x2 : Int32} (hT : mT M = T) (hL : mL M = L) : PW (QR T L) (b_X11_fisher_0 M x0 x1 x2) := sorry

theorem pr_f_X11_fisher {T L : Nat → Nat} {M : gMem} {x0 : Nat} {x1 : Int32} {x2 : Int32} (hT : mT M = T) (hL : mL M = L) : PW (QR T L) (f_X11_fisher M x0 x1 x2) := sorry

theorem pr_b_X11_pact_92 {T L : Nat → Nat} {M : gMem} {s0 : Int32} (hT : mT M = T) (hL : mL M = L) : PW (QR T L) (b_X11_pact_92 M s0) := sorry

theorem pr_b_X11_pact_15 {T L : Nat → Nat} {M : gMem} (hT : mT M = T) (hL : mL M = L) : PW (QR T L) (b_X11_pact_15 M) := sorry

set_option maxRecDepth 100000 in
theorem pr_b_X11_pact_0 {T L : Nat → Nat} {M : gMem} {x0 : Nat} {x1 : Int32} {x2 : Int32} (hT : mT M = T) (hL : mL M = L) : PW (QR T L) (b_X11_pact_0 M x0 x1 x2) := sorry

theorem pr_f_X11_pact {T L : Nat → Nat} {M : gMem} {x0 : Nat} {x1 : Int32} {x2 : Int32} (hT : mT M = T) (hL : mL M = L) : PW (QR T L) (f_X11_pact M x0 x1 x2) := sorry

theorem pr_b_X11_cheat_0 {T L : Nat → Nat} {M : gMem} {x0 : Nat} {x1 : Int32} {x2 : Int32} (hT : mT M = T) (hL : mL M = L) : PW (QR T L) (b_X11_cheat_0 M x0 x1 x2) := sorry

theorem pr_f_X11_cheat {T L : Nat → Nat} {M : gMem} {x0 : Nat} {x1 : Int32} {x2 : Int32} (hT : mT M = T) (hL : mL M = L) : PW (QR T L) (f_X11_cheat M x0 x1 x2) := sorry

theorem pr_b_X11_lot_15 {T L : Nat → Nat} {M : gMem} (hT : mT M = T) (hL : mL M = L) : PW (QR T L) (b_X11_lot_15 M) := sorry

theorem pr_b_X11_lot_0 {T L : Nat → Nat} {M : gMem} {x0 : Nat} {x1 : Int32} (hT : mT M = T) (hL : mL M = L) : PW (QR T L) (b_X11_lot_0 M x0 x1) := sorry

theorem pr_f_X11_lot {T L : Nat → Nat} {M : gMem} {x0 : Nat} {x1 : Int32} (hT : mT M = T) (hL : mL M = L) : PW (QR T L) (f_X11_lot M x0 x1) := sorry

theorem pr_b_X11_took_0 {T L : Nat → Nat} {M : gMem} {x0 : Nat} {x1 : Int32} {x2 : Int32} (hT : mT M = T) (hL : mL M = L) : PW (QR T L) (b_X11_took_0 M x0 x1 x2) := sorry

theorem pr_f_X11_took {T L : Nat → Nat} {M : gMem} {x0 : Nat} {x1 : Int32} {x2 : Int32} (hT : mT M = T) (hL : mL M = L) : PW (QR T L) (f_X11_took M x0 x1 x2) := sorry

theorem pr_b_X11_blame_53 {T L : Nat → Nat} {M : gMem} {x0 : Nat} {x1 : Int32} {x2 : Int32} {x3 : Int32} {x4 : Int32} (hT : mT M = T) (hL : mL M = L) : PW (QS T L (QR T L)) (b_X11_blame_53 M x0 x1 x2 x3 x4) := sorry

theorem pr_bb_X11_blame_12 {T L : Nat → Nat} {M : gMem} {x0 : Nat} {x1 : Int32} {x2 : Int32} {x3 : Int32} {x4 : Int32} (hT : mT M = T) (hL : mL M = L) : PW (QS T L (QR T L)) (bb_X11_blame_12 M x0 x1 x2 x3 x4) := sorry

theorem pr_lp_X11_blame_12 {T L : Nat → Nat} {M : gMem} {x0 : Nat} {x1 : Int32} {x2 : Int32} {x3 : Int32} {x4 : Int32} (hT : mT M = T) (hL : mL M = L) : PW (QR T L) (lp_X11_blame_12 M x0 x1 x2 x3 x4) := sorry

theorem pr_b_X11_blame_0 {T L : Nat → Nat} {M : gMem} {x0 : Nat} {x1 : Int32} (hT : mT M = T) (hL : mL M = L) : PW (QR T L) (b_X11_blame_0 M x0 x1) := sorry

theorem pr_f_X11_blame {T L : Nat → Nat} {M : gMem} {x0 : Nat} {x1 : Int32} (hT : mT M = T) (hL : mL M = L) : PW (QR T L) (f_X11_blame M x0 x1) := sorry

theorem pr_b_X11_pass_0 {T L : Nat → Nat} {Z : Nat → Nat} {M : gMem} {x0 : Nat} {x1 : Int32} (hT : mT M = T) (hL : mL M = L) : PW (QR T L) (b_X11_pass_0 Z M x0 x1) := sorry

theorem pr_f_X11_pass {T L : Nat → Nat} {Z : Nat → Nat} {M : gMem} {x0 : Nat} {x1 : Int32} (hT : mT M = T) (hL : mL M = L) : PW (QR T L) (f_X11_pass Z M x0 x1) := sorry

theorem pr_b_X11_foresee_15 {T L : Nat → Nat} {Z : Nat → Nat} {M : gMem} (hT : mT M = T) (hL : mL M = L) : PW (QR T L) (b_X11_foresee_15 Z M) := sorry

theorem pr_b_X11_foresee_0 {T L : Nat → Nat} {Z : Nat → Nat} {M : gMem} {x0 : Nat} {x1 : Int32} {x2 : Int32} (hT : mT M = T) (hL : mL M = L) : PW (QR T L) (b_X11_foresee_0 Z M x0 x1 x2) := sorry

theorem pr_f_X11_foresee {T L : Nat → Nat} {Z : Nat → Nat} {M : gMem} {x0 : Nat} {x1 : Int32} {x2 : Int32} (hT : mT M = T) (hL : mL M = L) : PW (QR T L) (f_X11_foresee Z M x0 x1 x2) := sorry

set_option maxRecDepth 100000 in
theorem pr_b_X11_pays_0 {T L : Nat → Nat} {Z : Nat → Nat} {M : gMem} {x0 : Nat} {x1 : Int32} {x2 : Int32} (hT : mT M = T) (hL : mL M = L) : PW (QR T L) (b_X11_pays_0 Z M x0 x1 x2) := sorry

theorem pr_f_X11_pays {T L : Nat → Nat} {Z : Nat → Nat} {M : gMem} {x0 : Nat} {x1 : Int32} {x2 : Int32} (hT : mT M = T) (hL : mL M = L) : PW (QR T L) (f_X11_pays Z M x0 x1 x2) := sorry

theorem pr_b_X11_empty_28 {T L : Nat → Nat} {Z : Nat → Nat} {M : gMem} {x1 : Int32} {x2 : Option Nat} {x3 : Int32} (hT : mT M = T) (hL : mL M = L) : PW (QS T L (QR T L)) (b_X11_empty_28 Z M x1 x2 x3) := sorry

theorem pr_bb_X11_empty_12 {T L : Nat → Nat} {Z : Nat → Nat} {M : gMem} {x1 : Int32} {x2 : Option Nat} {x3 : Int32} (hT : mT M = T) (hL : mL M = L) : PW (QS T L (QR T L)) (bb_X11_empty_12 Z M x1 x2 x3) := sorry

theorem pr_lp_X11_empty_12 {T L : Nat → Nat} {Z : Nat → Nat} {M : gMem} {x1 : Int32} {x2 : Option Nat} {x3 : Int32} (hT : mT M = T) (hL : mL M = L) : PW (QR T L) (lp_X11_empty_12 Z M x1 x2 x3) := sorry

theorem pr_b_X11_empty_0 {T L : Nat → Nat} {Z : Nat → Nat} {M : gMem} {x0 : Nat} {x1 : Int32} (hT : mT M = T) (hL : mL M = L) : PW (QR T L) (b_X11_empty_0 Z M x0 x1) := sorry

theorem pr_f_X11_empty {T L : Nat → Nat} {Z : Nat → Nat} {M : gMem} {x0 : Nat} {x1 : Int32} (hT : mT M = T) (hL : mL M = L) : PW (QR T L) (f_X11_empty Z M x0 x1) := sorry

theorem pr_b_X11_advise_80 {T L : Nat → Nat} {Z : Nat → Nat} {M : gMem} {x0 : Nat} {x1 : Int32} {x2 : Int32} {x3 : Int32} {x4 : Int32} {x5 : Int32} (hT : mT M = T) (hL : mL M = L) : PW (QS T L (QR T L)) (b_X11_advise_80 Z M x0 x1 x2 x3 x4 x5) := sorry

theorem pr_bb_X11_advise_19 {T L : Nat → Nat} {Z : Nat → Nat} {M : gMem} {x0 : Nat} {x1 : Int32} {x2 : Int32} {x3 : Int32} {x4 : Int32} {x5 : Int32} (hT : mT M = T) (hL : mL M = L) : PW (QS T L (QR T L)) (bb_X11_advise_19 Z M x0 x1 x2 x3 x4 x5) := sorry

theorem pr_lp_X11_advise_19 {T L : Nat → Nat} {Z : Nat → Nat} {M : gMem} {x0 : Nat} {x1 : Int32} {x2 : Int32} {x3 : Int32} {x4 : Int32} {x5 : Int32} (hT : mT M = T) (hL : mL M = L) : PW (QR T L) (lp_X11_advise_19 Z M x0 x1 x2 x3 x4 x5) := sorry

theorem pr_b_X11_advise_0 {T L : Nat → Nat} {Z : Nat → Nat} {M : gMem} {x0 : Nat} {x1 : Int32} {x2 : Int32} (hT : mT M = T) (hL : mL M = L) : PW (QR T L) (b_X11_advise_0 Z M x0 x1 x2) := sorry

theorem pr_f_X11_advise {T L : Nat → Nat} {Z : Nat → Nat} {M : gMem} {x0 : Nat} {x1 : Int32} {x2 : Int32} (hT : mT M = T) (hL : mL M = L) : PW (QR T L) (f_X11_advise Z M x0 x1 x2) := sorry
