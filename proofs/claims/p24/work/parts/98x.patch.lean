/-! ## Pure: names get what they mean; what stands at the end -/
theorem wds_a {pg : Nat → Nat} {s : Nat} : ∀ n, wds pg 0 (s + n) = wds pg 0 s + wds pg s n := sorry

/-- the code, the names before s patched -/
def PTC (ef : Nat → Nat × Nat) (vs : Nat → Nat) (m t n s : Nat) (D X : gMem) : Prop :=
  (mT X = mT D ∧ mL X = mL D ∧ mN X = mN D ∧ mR X = mR D ∧ mJ X = mJ D ∧ ∀ a, a ≠ t + 15 → mI X a = mI D a) ∧ ∀ s', s' < n → mI X (t + 15) (wds (fun s => (ef s).1) 0 s') = nI (opc (ef s').1) ∧ (nmP (ef s').1 → mI X (t + 15) (wds (fun s => (ef s).1) 0 s' + 1) = if s' < s then mI D (m + 6) (ef s').2 else nI (ef s').2) ∧ ((ef s').1 = 41 → mI X (t + 15) (wds (fun s => (ef s).1) 0 s' + 1) = nI (vs (ef s').2))
/-- the code between two places is the class's signs -/
theorem SR_f {ef : Nat → Nat × Nat} {Z vs : Nat → Nat} {o m t n F G k s e : Nat} {E : List (Nat × Nat)} {C D Y : gMem} (hE : E.length = n) (hef : ∀ s (h : s < E.length), ef s = E[s]) (V : RV Z vs o m F G E k C D) (P : PTC ef vs m t n n D Y) (hn : n ≤ 400) (h1 : s ≤ e) (h2 : e ≤ n) (h3 : hgt (fun s => (ef s).1) s (e - s) = 1) (h4 : vld (fun s => (ef s).1) s (e - s)) : SR (fun s => (ef s).1) n (fun d k => mI C (o + d) k) (fun k => mI Y (t + 15) k) F G (nI s) (nI e) (nI (wds (fun s => (ef s).1) 0 s)) (nI (wds (fun s => (ef s).1) 0 e)) := sorry

/-- what the class has read and what was told to the reference -/
theorem fin_TR {ef : Nat → Nat × Nat} {Z vs : Nat → Nat} {r o m t k nO hh : Nat} {L1 L2 L3 : List Nat} {E : List (Nat × Nat)} {q : Nat × Nat × Nat × Nat} {C D Y : gMem} (ht : m + 7 ≤ t) (hef : ∀ s (h : s < E.length), ef s = E[s]) (R : RA Z vs r o m t L1 L2 L3 E nO k q C D) (hq : LSq q) (T : RT ef vs o t nO L3.length E.length q.2.2.1 q.2.2.2 hh C D) (P : PTC ef vs m t E.length E.length D Y) (hn : E.length ≤ 400) : TR (fun s => (ef s).1) E.length (fun d k => mI C (o + d) k) Y t L2.length L1.length L3.length nO := sorry

theorem gSw_n : ∀ c, c < 45 → (gSw c = 7 ∨ gSw c = 15 ∨ gSw c = 16 ∨ gSw c = 17 ∨ gSw c = 18 ∨ gSw c = 19) → c = 2 ∨ c = 18 ∨ c = 4 ∨ c = 16 ∨ c = 17 ∨ c = 19 := sorry

theorem fin_W {ef : Nat → Nat × Nat} {Z vs : Nat → Nat} {r o m t k nO hh : Nat} {L1 L2 L3 : List Nat} {E : List (Nat × Nat)} {q : Nat × Nat × Nat × Nat} {C D : gMem} (hZ : ∀ a b : Nat, a < 45 → b < 45 → Z a = Z b → a = b) (hef : ∀ s (h : s < E.length), ef s = E[s]) (hc : ∀ s (h : s < E.length), (E[s]).1 < 45) (R : RA Z vs r o m t L1 L2 L3 E nO k q C D) (hq : LSq q) (T : RT ef vs o t nO L3.length E.length q.2.2.1 q.2.2.2 hh C D) (hn : E.length ≤ 400) : PG Z (fun s => (ef s).1) o E.length C (fun d k => mI C (o + d) k) ∧ WS (fun d k => mI C (o + d) k) L2.length L1.length L3.length nO ∧ WD (fun d k => mI C (o + d) k) L2.length L1.length := sorry
