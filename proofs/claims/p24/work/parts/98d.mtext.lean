/-! ## Pure: the reference's lines of goes and pacts; its text -/
/-- how many events of a kind -/
def nc (c : Nat) : List (Nat × Nat) → Nat
  | [] => 0
  | x :: r => (if x.1 = c then 1 else 0) + nc c r
theorem ES_nc {g : Nat → Nat} : ∀ (es : List (Nat × Nat)) (k e : Nat), ES g k es e → nc 54 es + nc 53 es + k ≤ e := sorry

theorem nc_0 {c : Nat} (hc : 45 ≤ c) : ∀ es : List (Nat × Nat), (∀ y ∈ es, y.1 < 45) → nc c es = 0 := sorry

theorem ms_c {vs : Nat → Nat} {m t c i : Nat} {M : gMem} (ht : m + 7 ≤ t) : mI (mst1 vs m t c i M) t 15 = (if c = 54 then nI (cn M t 15 + 1) else mI M t 15) ∧ mI (mst1 vs m t c i M) t 16 = (if c = 53 then nI (cn M t 16 + 1) else mI M t 16) := sorry

theorem mr_c {vs : Nat → Nat} {m t : Nat} (ht : m + 7 ≤ t) : ∀ (es : List (Nat × Nat)) (M : gMem) (a b : Nat), mI M t 15 = nI a → mI M t 16 = nI b → a + nc 54 es < 2 ^ 30 → b + nc 53 es < 2 ^ 30 → mI (mrn vs m t es M) t 15 = nI (a + nc 54 es) ∧ mI (mrn vs m t es M) t 16 = nI (b + nc 53 es) := sorry

theorem imin_n {a b : Nat} (ha : a < 2 ^ 30) (hb : b < 2 ^ 30) : imin (nI a) (nI b) = nI (min a b) := sorry

/-- a memory that differs in told's counters and rows, not in code and opens -/
theorem Q_w {m t e d a j : Nat} {v : Int32} {M0 M : gMem} (ht : m + 7 ≤ t) (Q : mQk m t d M0 M e) (h : (a = t ∧ j ≠ 22 ∧ j ≠ 24) ∨ (t < a ∧ a < t + 17)) : mQk m t d M0 (wI M a j v) e := sorry

theorem ML_si {vs : Nat → Nat} {K m t : Nat} {M0 M M1 : gMem} {x : Option (Option (List (Nat × Nat)) × Nat)} {y : Option (Int32 × gMem)} (ht : m + 7 ≤ t) (hs : si2 m M1 M) (h : MLl vs K m t M0 M1 x y) : MLl vs K m t M0 M x y := sorry

/-! pacts -/
theorem ck_oI {α β : Type} {p : Prop} [Decidable p] {x : Option β} : (ck p (oI x) : Option (α ⊕ β)) = oI (ck p x) := sorry

theorem bd_oI {α β : Type} {z : Option (Int32 × gMem)} {A B : Int32 → gMem → Option β} : (bd z fun r M => if r = 0 then (oI (A r M) : Option (α ⊕ β)) else oI (B r M)) = oI (bd z fun r M => if r = 0 then A r M else B r M) := sorry

theorem dr_oI {α β : Type} {z : Option Nat} {A : Nat → Option β} : (dr z fun a => (oI (A a) : Option (α ⊕ β))) = oI (dr z A) := sorry

theorem lw_oI {α β : Type} {M : gMem} {A : gMem → Option β} : (lw M fun a => (oI (A a) : Option (α ⊕ β))) = oI (lw M A) := sorry
