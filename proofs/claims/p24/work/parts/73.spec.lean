/-! ## Pure: what a text says, told by its row of signs: the events (code, token) of its parts -/
def sq (x : Option (Option (List (Nat × Nat)) × Nat)) (f : Nat → Option (Option (List (Nat × Nat)) × Nat)) : Option (Option (List (Nat × Nat)) × Nat) :=
  match x with
  | none => none
  | some (none, k) => some (none, k)
  | some (some es, k) => match f k with
    | none => none
    | some (none, k1) => some (none, k1)
    | some (some es1, k1) => some (some (es ++ es1), k1)
def ft (k : Nat) : Option (Option (List (Nat × Nat)) × Nat) := some (none, k)
def em (e : Nat × Nat) (k : Nat) : Option (Option (List (Nat × Nat)) × Nat) := some (some [e], k)
def tk1 (g : Nat → Nat) (a k : Nat) : Option (Option (List (Nat × Nat)) × Nat) := if g k = a then some (some [], k + 1) else ft k
def nm (g : Nat → Nat) (c k : Nat) : Option (Option (List (Nat × Nat)) × Nat) := if g k = 40 then em (c, k) (k + 1) else ft k
def nb (g : Nat → Nat) (c k : Nat) : Option (Option (List (Nat × Nat)) × Nat) := if g k = 41 then em (c, k) (k + 1) else ft k
def lpS (g : Nat → Nat) (a b : Nat) (f : Nat → Option (Option (List (Nat × Nat)) × Nat)) : Nat → Nat → Option (Option (List (Nat × Nat)) × Nat)
  | 0, _ => none
  | m + 1, k => if g k = a ∨ g k = b then sq (f (k + 1)) (fun k1 => sq (em (g k, k) k1) (lpS g a b f m)) else some (some [], k)
def Px (g : Nat → Nat) : Nat → Nat → Nat → Nat → Option (Option (List (Nat × Nat)) × Nat)
  | 0, _, _, _ => none
  | n + 1, j, k, d =>
    if j = 0 then sq (Px g n 1 k d) (lpS g 22 22 (fun k => Px g n 1 k d) 401)
    else if j = 1 then sq (Px g n 2 k d) (lpS g 21 21 (fun k => Px g n 2 k d) 401)
    else if j = 2 then
      if g k = 20 then (if 8 ≤ d then ft k else sq (Px g n 2 (k + 1) (d + 1)) (em (20, k)))
      else if g k = 27 then (if 8 ≤ d then ft k else sq (Px g n 0 (k + 1) (d + 1)) (tk1 g 28))
      else if g k = 19 then nm g 19 (k + 1)
      else sq (Px g n 4 k d) (fun k => Px g n 3 k d)
    else if j = 3 then (if 35 ≤ g k ∧ g k ≤ 39 then sq (Px g n 4 (k + 1) d) (em (g k, k)) else ft k)
    else if j = 4 then sq (Px g n 5 k d) (lpS g 31 32 (fun k => Px g n 5 k d) 401)
    else if j = 5 then sq (Px g n 6 k d) (lpS g 33 34 (fun k => Px g n 6 k d) 401)
    else
      if g k = 41 then em (41, k) (k + 1)
      else if g k = 15 then em (15, k) (k + 1)
      else if g k = 16 ∨ g k = 17 ∨ g k = 4 then nm g (g k) (k + 1)
      else if g k = 2 ∨ g k = 18 then nm g (g k) (k + 1)
      else if g k = 32 then (if 8 ≤ d then ft k else sq (Px g n 6 (k + 1) (d + 1)) (em (44, k)))
      else if g k = 25 then (if 8 ≤ d then ft k else sq (Px g n 4 (k + 1) (d + 1)) (tk1 g 26))
      else if g k = 23 ∨ g k = 24 then
        (if 8 ≤ d then ft (k + 1) else sq (tk1 g 25 (k + 1)) fun k1 => sq (Px g n 4 k1 (d + 1)) fun k2 => sq (tk1 g 30 k2) fun k3 => sq (Px g n 4 k3 (d + 1)) fun k4 => sq (tk1 g 26 k4) (em (g k, k)))
      else ft k
/-- a row of sizes, a row of members -/
def szL (g : Nat → Nat) : Nat → Nat → Nat → Option (Option (List (Nat × Nat)) × Nat)
  | 0, _, _ => none
  | m + 1, s, k => if g k = 30 then sq (nb g (1000 + s) (k + 1)) (szL g m (s + 1)) else some (some [], k)
def mbL (g : Nat → Nat) : Nat → Nat → Option (Option (List (Nat × Nat)) × Nat)
  | 0, _ => none
  | m + 1, k => if g k = 30 then sq (nm g 62 (k + 1)) (mbL g m) else some (some [], k)
def lnG (g : Nat → Nat) (k : Nat) : Option (Option (List (Nat × Nat)) × Nat) := sq (tk1 g 0 k) fun k => sq (nm g 51 k) fun k => sq (tk1 g 1 k) fun k => sq (nb g 55 k) fun k => sq (tk1 g 2 k) fun k => sq (nb g 1001 k) fun k => szL g 401 2 k
def lnF (g : Nat → Nat) (k : Nat) : Option (Option (List (Nat × Nat)) × Nat) := sq (tk1 g 3 k) fun k => sq (nm g 52 k) fun k => sq (tk1 g 4 k) fun k => sq (nb g 57 k) fun k => sq (tk1 g 5 k) fun k => sq (nb g 58 k) fun k => sq (tk1 g 6 k) fun k => nb g 59 k
def lnO (g : Nat → Nat) (k : Nat) : Option (Option (List (Nat × Nat)) × Nat) := sq (if g k = 7 then em (54, k) (k + 1) else ft k) fun k => sq (nm g 60 k) fun k => sq (tk1 g 8 k) fun k => sq (nm g 61 k) fun k => if g k = 9 then sq (Px g 64 0 (k + 1) 0) (em (64, k)) else em (66, k) k
def lnP (g : Nat → Nat) (k : Nat) : Option (Option (List (Nat × Nat)) × Nat) := sq (tk1 g 10 k) fun k => sq (nm g 53 k) fun k => sq (tk1 g 11 k) fun k => sq (nm g 62 k) fun k => sq (mbL g 401 k) fun k => if g k = 12 then some (some [], k + 1) else sq (tk1 g 13 k) fun k => sq (nm g 63 k) fun k => sq (tk1 g 14 k) fun k => sq (Px g 64 4 k 0) (em (65, k))
def ln1 (g : Nat → Nat) (k : Nat) : Option (Option (List (Nat × Nat)) × Nat) := if g k = 0 then lnG g k else if g k = 3 then lnF g k else if g k = 7 then lnO g k else if g k = 10 then lnP g k else ft k
def txL (g : Nat → Nat) : Nat → Nat → Option (Option (List (Nat × Nat)) × Nat)
  | 0, _ => none
  | m + 1, k => if g k = 42 then some (some [], k) else sq (ln1 g k) fun k => sq (tk1 g 29 k) (txL g m)
/-! facts of the events -/
/-- an event that stands at its own token; what sign stands there -/
def tkC (c : Nat) : Bool := c == 2 || c == 4 || c == 16 || c == 17 || c == 18 || c == 19 || c == 41 || (decide (50 ≤ c) && c != 64 && c != 65 && c != 66)
def kdC (c : Nat) : Nat := if c = 54 then 7 else if c = 41 ∨ (55 ≤ c ∧ c ≤ 59) ∨ 1000 ≤ c then 41 else 40
def ES (g : Nat → Nat) : Nat → List (Nat × Nat) → Nat → Prop
  | k, [], e => k ≤ e
  | k, x :: t, e => if tkC x.1 = true then k ≤ x.2 ∧ g x.2 = kdC x.1 ∧ ES g (x.2 + 1) t e else ES g k t e
/-- the height of the stack behind an event -/
def hC (c h : Nat) : Option Nat :=
  if c = 41 ∨ c = 2 ∨ c = 4 ∨ c = 15 ∨ c = 16 ∨ c = 17 ∨ c = 18 ∨ c = 19 then some (h + 1)
  else if c = 20 ∨ c = 44 then (if 1 ≤ h then some h else none)
  else if c = 21 ∨ c = 22 ∨ c = 23 ∨ c = 24 ∨ (31 ≤ c ∧ c ≤ 39) then (if 2 ≤ h then some (h - 1) else none)
  else if c = 61 ∨ c = 63 then (if h = 0 then some 0 else none)
  else if c = 64 ∨ c = 65 then (if h = 1 then some 0 else none)
  else if c = 66 then (if h = 0 then some 0 else none)
  else if 50 ≤ c then some h else none
def hE : List (Nat × Nat) → Nat → Option Nat
  | [], h => some h
  | x :: t, h => match hC x.1 h with
    | none => none
    | some h1 => hE t h1
theorem hE_app : ∀ (a b : List (Nat × Nat)) (h h1 : Nat), hE a h = some h1 → hE (a ++ b) h = hE b h1
  | [], b, h, h1, e => by cases e; rfl
  | x :: t, b, h, h1, e => by
    simp only [hE, List.cons_append] at e ⊢
    cases c : hC x.1 h with
    | none => rw [c] at e; cases e
    | some h2 => rw [c] at e; exact hE_app t b h2 h1 e
theorem ES_le {g : Nat → Nat} : ∀ (a : List (Nat × Nat)) (k e : Nat), ES g k a e → k ≤ e
  | [], k, e, h => h
  | x :: t, k, e, h => by
    rw [ES] at h
    by_cases c : tkC x.1 = true
    · rw [if_pos c] at h
      have := ES_le t _ e h.2.2
      omega
    · rw [if_neg c] at h
      exact ES_le t _ e h
theorem ES_dn {g : Nat → Nat} : ∀ (a : List (Nat × Nat)) (k k1 e : Nat), k ≤ k1 → ES g k1 a e → ES g k a e
  | [], k, k1, e, hk, h => Nat.le_trans hk h
  | x :: t, k, k1, e, hk, h => by
    rw [ES] at h ⊢
    by_cases c : tkC x.1 = true
    · rw [if_pos c] at h ⊢
      exact ⟨by omega, h.2⟩
    · rw [if_neg c] at h ⊢
      exact ES_dn t k k1 e hk h
theorem ES_app {g : Nat → Nat} : ∀ (a b : List (Nat × Nat)) (k k1 k2 : Nat), ES g k a k1 → ES g k1 b k2 → ES g k (a ++ b) k2
  | [], b, k, k1, k2, h1, h2 => ES_dn b k k1 k2 h1 h2
  | x :: t, b, k, k1, k2, h1, h2 => by
    rw [List.cons_append, ES]
    rw [ES] at h1
    by_cases c : tkC x.1 = true
    · rw [if_pos c] at h1 ⊢
      exact ⟨h1.1, h1.2.1, ES_app t b _ k1 k2 h1.2.2 h2⟩
    · rw [if_neg c] at h1 ⊢
      exact ES_app t b _ k1 k2 h1 h2
/-- what holds of an answer -/
def FP (g : Nat → Nat) (K k z u v w : Nat) (x : Option (Option (List (Nat × Nat)) × Nat)) : Prop :=
  match x with
  | none => True
  | some (none, e) => e ≤ K
  | some (some es, e) => e ≤ K ∧ k + z ≤ e ∧ ES g k es e ∧ ∀ h, (w = 0 → h = 0) → hE es (h + u) = some (h + v)
theorem FP_sq {g : Nat → Nat} {K k z z1 z2 u v t w : Nat} {x : Option (Option (List (Nat × Nat)) × Nat)} {f : Nat → Option (Option (List (Nat × Nat)) × Nat)} (h1 : FP g K k z1 u v w x) (h2 : ∀ e, k + z1 ≤ e → e ≤ K → FP g K e z2 v t w (f e)) (hz : z ≤ z1 + z2) : FP g K k z u t w (sq x f) := by
  match x, h1 with
  | none, _ => trivial
  | some (none, k1), h1 => exact h1
  | some (some es, k1), h1 =>
    obtain ⟨a1, a2, a3, a4⟩ := h1
    have h3 := h2 k1 a2 a1
    show FP g K k z u t w (match f k1 with
      | none => none
      | some (none, k1) => some (none, k1)
      | some (some es1, k1) => some (some (es ++ es1), k1))
    match f k1, h3 with
    | none, _ => trivial
    | some (none, k2), h3 => exact h3
    | some (some es1, k2), h3 =>
      obtain ⟨b1, b2, b3, b4⟩ := h3
      exact ⟨b1, by omega, ES_app _ _ _ _ _ a3 b3, fun h hh => by rw [hE_app _ _ _ _ (a4 h hh), b4 h hh]⟩
theorem FP_ft {g : Nat → Nat} {K k z u v w e : Nat} (h : e ≤ K) : FP g K k z u v w (ft e) := h
theorem FP_nil {g : Nat → Nat} {K k u w : Nat} (h : k ≤ K) : FP g K k 0 u u w (some (some [], k)) := ⟨h, Nat.le_refl _, Nat.le_refl _, fun _ _ => rfl⟩
theorem FP_tk {g : Nat → Nat} {K k u w a : Nat} (H : ∀ i, i ≤ K → g i < 42 → i + 1 ≤ K) (hk : k ≤ K) (ha : a < 42) : FP g K k 1 u u w (tk1 g a k) := by
  unfold tk1
  by_cases c : g k = a
  · rw [if_pos c]
    exact ⟨H k hk (by omega), Nat.le_refl _, Nat.le_succ k, fun _ _ => rfl⟩
  · rw [if_neg c]; exact hk
/-- an event without a token -/
theorem FP_op {g : Nat → Nat} {K k u v w c i : Nat} (hc : tkC c = false) (hk : k ≤ K) (hh : ∀ h, (w = 0 → h = 0) → hC c (h + u) = some (h + v)) : FP g K k 0 u v w (em (c, i) k) := by
  refine ⟨hk, Nat.le_refl _, ?_, fun h h0 => ?_⟩
  · rw [ES, if_neg (by rw [hc]; simp)]; exact Nat.le_refl _
  · simp only [hE, hh h h0]
/-- an event with its token -/
theorem FP_ev {g : Nat → Nat} {K k u v w c : Nat} (H : ∀ i, i ≤ K → g i < 42 → i + 1 ≤ K) (hk : k ≤ K) (hg : g k = kdC c) (hk2 : kdC c < 42) (hc : tkC c = true) (hh : ∀ h, (w = 0 → h = 0) → hC c (h + u) = some (h + v)) : FP g K k 1 u v w (em (c, k) (k + 1)) := by
  refine ⟨H k hk (by omega), Nat.le_refl _, ?_, fun h h0 => ?_⟩
  · rw [ES, if_pos hc]; exact ⟨Nat.le_refl _, hg, Nat.le_refl _⟩
  · simp only [hE, hh h h0]
theorem FP_nm {g : Nat → Nat} {K k u v w c : Nat} (H : ∀ i, i ≤ K → g i < 42 → i + 1 ≤ K) (hk : k ≤ K) (hg : kdC c = 40) (hc : tkC c = true) (hh : ∀ h, (w = 0 → h = 0) → hC c (h + u) = some (h + v)) : FP g K k 1 u v w (nm g c k) := by
  unfold nm
  by_cases e : g k = 40
  · rw [if_pos e]; exact FP_ev H hk (by rw [hg]; exact e) (by omega) hc hh
  · rw [if_neg e]; exact hk
theorem FP_nb {g : Nat → Nat} {K k u v w c : Nat} (H : ∀ i, i ≤ K → g i < 42 → i + 1 ≤ K) (hk : k ≤ K) (hg : kdC c = 41) (hc : tkC c = true) (hh : ∀ h, (w = 0 → h = 0) → hC c (h + u) = some (h + v)) : FP g K k 1 u v w (nb g c k) := by
  unfold nb
  by_cases e : g k = 41
  · rw [if_pos e]; exact FP_ev H hk (by rw [hg]; exact e) (by omega) hc hh
  · rw [if_neg e]; exact hk
theorem FP_dn {g : Nat → Nat} {K k k1 z z1 u v w : Nat} {x : Option (Option (List (Nat × Nat)) × Nat)} (h : FP g K k1 z1 u v w x) (hk : k ≤ k1) (hz : k + z ≤ k1 + z1) : FP g K k z u v w x := by
  match x, h with
  | none, _ => trivial
  | some (none, e), h => exact h
  | some (some es, e), h => exact ⟨h.1, by have := h.2.1; omega, ES_dn _ _ _ _ hk h.2.2.1, h.2.2.2⟩
theorem FP_up {g : Nat → Nat} {K k z u v : Nat} {x : Option (Option (List (Nat × Nat)) × Nat)} (h : FP g K k z u v 1 x) : FP g K k z (u + 1) (v + 1) 1 x := by
  match x, h with
  | none, _ => trivial
  | some (none, e), h => exact h
  | some (some es, e), h => exact ⟨h.1, h.2.1, h.2.2.1, fun a _ => by
      have := h.2.2.2 (a + 1) (fun c => by omega)
      rw [show a + (u + 1) = a + 1 + u by omega, this]
      congr 1
      omega⟩
theorem FP_w {g : Nat → Nat} {K k z u v : Nat} {x : Option (Option (List (Nat × Nat)) × Nat)} (h : FP g K k z u v 1 x) : FP g K k z u v 0 x := by
  match x, h with
  | none, _ => trivial
  | some (none, e), h => exact h
  | some (some es, e), h => exact ⟨h.1, h.2.1, h.2.2.1, fun a _ => h.2.2.2 a (fun c => by omega)⟩
theorem hC_bi {c h : Nat} (hc : c = 21 ∨ c = 22 ∨ c = 23 ∨ c = 24 ∨ (31 ≤ c ∧ c ≤ 39)) : hC c (h + 2) = some (h + 1) := by
  unfold hC
  rw [if_neg (by omega), if_neg (by omega), if_pos hc, if_pos (by omega)]
  congr 1
theorem hC_po {c h : Nat} (hc : c = 41 ∨ c = 2 ∨ c = 4 ∨ c = 15 ∨ c = 16 ∨ c = 17 ∨ c = 18 ∨ c = 19) : hC c (h + 0) = some (h + 1) := by
  unfold hC
  rw [if_pos hc]
theorem tkC_bi : ∀ c, c < 45 → (c = 21 ∨ c = 22 ∨ c = 23 ∨ c = 24 ∨ (31 ≤ c ∧ c ≤ 39)) → tkC c = false := by decide +kernel
theorem FP_lp {g : Nat → Nat} {K a b : Nat} {f : Nat → Option (Option (List (Nat × Nat)) × Nat)} (H : ∀ i, i ≤ K → g i < 42 → i + 1 ≤ K) (ha : a = 21 ∨ a = 22 ∨ (31 ≤ a ∧ a ≤ 34)) (hb : b = 21 ∨ b = 22 ∨ (31 ≤ b ∧ b ≤ 34)) (hf : ∀ e, e ≤ K → FP g K e 1 0 1 1 (f e)) : ∀ m k, k ≤ K → FP g K k 0 1 1 1 (lpS g a b f m k)
  | 0, _, _ => trivial
  | m + 1, k, hk => by
    rw [lpS]
    by_cases c : g k = a ∨ g k = b
    · rw [if_pos c]
      have hk1 := H k hk (by rcases c with h | h <;> omega)
      have e1 : FP g K k 2 1 2 1 (f (k + 1)) := FP_dn (FP_up (hf (k + 1) hk1)) (by omega) (by omega)
      refine FP_sq e1 (fun e he1 he2 => ?_) (z2 := 0) (by omega)
      have cb : g k = 21 ∨ g k = 22 ∨ g k = 23 ∨ g k = 24 ∨ (31 ≤ g k ∧ g k ≤ 39) := by rcases c with h | h <;> omega
      refine FP_sq (FP_op (tkC_bi _ (by omega) cb) he2 (fun h _ => hC_bi cb)) (fun e1 he3 he4 => ?_) (z2 := 0) (by omega)
      exact FP_lp H ha hb hf m e1 he4
    · rw [if_neg c]
      exact FP_nil hk
theorem FP_Px {g : Nat → Nat} {K : Nat} (H : ∀ i, i ≤ K → g i < 42 → i + 1 ≤ K) : ∀ n j k d, k ≤ K → (j ≠ 3 → FP g K k 1 0 1 1 (Px g n j k d)) ∧ (j = 3 → FP g K k 1 1 1 1 (Px g n j k d))
  | 0, j, k, d, hk => ⟨fun _ => trivial, fun _ => trivial⟩
  | n + 1, j, k, d, hk => by
    have IH := fun j k d hk => (FP_Px H n j k d hk).1
    have I3 := fun k d hk => (FP_Px H n 3 k d hk).2 rfl
    rw [Px]
    by_cases j3 : j = 3
    · refine ⟨fun c => absurd j3 c, fun _ => ?_⟩
      subst j3
      rw [if_neg (by decide), if_neg (by decide), if_neg (by decide), if_pos rfl]
      by_cases c : 35 ≤ g k ∧ g k ≤ 39
      · rw [if_pos c]
        have hk1 := H k hk (by omega)
        have e1 : FP g K k 1 1 2 1 (Px g n 4 (k + 1) d) := FP_dn (FP_up (IH 4 (k + 1) d hk1 (by decide))) (by omega) (by omega)
        have cb : g k = 21 ∨ g k = 22 ∨ g k = 23 ∨ g k = 24 ∨ (31 ≤ g k ∧ g k ≤ 39) := by omega
        exact FP_sq e1 (fun e he1 he2 => FP_op (tkC_bi _ (by omega) cb) he2 (fun h _ => hC_bi cb)) (by omega)
      · rw [if_neg c]; exact hk
    refine ⟨fun _ => ?_, fun c => absurd c j3⟩
    have LP : ∀ a b j1, (a = 21 ∨ a = 22 ∨ (31 ≤ a ∧ a ≤ 34)) → (b = 21 ∨ b = 22 ∨ (31 ≤ b ∧ b ≤ 34)) → j1 ≠ 3 → FP g K k 1 0 1 1 (sq (Px g n j1 k d) (lpS g a b (fun k => Px g n j1 k d) 401)) := fun a b j1 ha hb hj =>
      FP_sq (IH j1 k d hk hj) (fun e he1 he2 => FP_lp H ha hb (fun e he => IH j1 e d he hj) 401 e he2) (by omega)
    by_cases c0 : j = 0
    · rw [if_pos c0]; exact LP 22 22 1 (by decide) (by decide) (by decide)
    rw [if_neg c0]
    by_cases c1 : j = 1
    · rw [if_pos c1]; exact LP 21 21 2 (by decide) (by decide) (by decide)
    rw [if_neg c1]
    by_cases c2 : j = 2
    · rw [if_pos c2]
      by_cases d0 : g k = 20
      · rw [if_pos d0]
        by_cases d8 : 8 ≤ d
        · rw [if_pos d8]; exact hk
        · rw [if_neg d8]
          exact FP_sq (FP_dn (IH 2 (k + 1) (d + 1) (H k hk (by omega)) (by decide)) (z := 1) (by omega) (by omega)) (fun e he1 he2 => FP_op (by decide) he2 (fun h _ => by unfold hC; rw [if_neg (by decide), if_pos (.inl rfl), if_pos (by omega)])) (z2 := 0) (by omega)
      rw [if_neg d0]
      by_cases d1 : g k = 27
      · rw [if_pos d1]
        by_cases d8 : 8 ≤ d
        · rw [if_pos d8]; exact hk
        · rw [if_neg d8]
          exact FP_sq (FP_dn (IH 0 (k + 1) (d + 1) (H k hk (by omega)) (by decide)) (z := 1) (by omega) (by omega)) (fun e he1 he2 => FP_tk H he2 (by decide)) (by omega)
      rw [if_neg d1]
      by_cases d2 : g k = 19
      · rw [if_pos d2]
        exact FP_dn (FP_nm H (H k hk (by omega)) (by decide) (by decide) (fun h _ => hC_po (by decide))) (by omega) (by omega)
      rw [if_neg d2]
      exact FP_sq (IH 4 k d hk (by decide)) (fun e he1 he2 => I3 e d he2) (by omega)
    rw [if_neg c2, if_neg j3]
    by_cases c4 : j = 4
    · rw [if_pos c4]; exact LP 31 32 5 (by decide) (by decide) (by decide)
    rw [if_neg c4]
    by_cases c5 : j = 5
    · rw [if_pos c5]; exact LP 33 34 6 (by decide) (by decide) (by decide)
    rw [if_neg c5]
    by_cases d0 : g k = 41
    · rw [if_pos d0]; exact FP_ev H hk d0 (by decide) (by decide) (fun h _ => hC_po (by decide))
    rw [if_neg d0]
    by_cases d1 : g k = 15
    · rw [if_pos d1]
      exact FP_dn (FP_op (k := k + 1) (by decide) (H k hk (by omega)) (fun h _ => hC_po (by decide))) (by omega) (by omega)
    rw [if_neg d1]
    by_cases d2 : g k = 16 ∨ g k = 17 ∨ g k = 4
    · rw [if_pos d2]
      have e1 : ∀ c, (c = 16 ∨ c = 17 ∨ c = 4) → FP g K k 1 0 1 1 (nm g c (k + 1)) := fun c hc =>
        FP_dn (FP_nm H (H k hk (by omega)) (by rcases hc with h | h | h <;> subst h <;> decide) (by rcases hc with h | h | h <;> subst h <;> decide) (fun h _ => hC_po (by omega))) (by omega) (by omega)
      exact e1 _ d2
    rw [if_neg d2]
    by_cases d3 : g k = 2 ∨ g k = 18
    · rw [if_pos d3]
      have e1 : ∀ c, (c = 2 ∨ c = 18) → FP g K k 1 0 1 1 (nm g c (k + 1)) := fun c hc =>
        FP_dn (FP_nm H (H k hk (by omega)) (by rcases hc with h | h <;> subst h <;> decide) (by rcases hc with h | h <;> subst h <;> decide) (fun h _ => hC_po (by omega))) (by omega) (by omega)
      exact e1 _ d3
    rw [if_neg d3]
    by_cases d4 : g k = 32
    · rw [if_pos d4]
      by_cases d8 : 8 ≤ d
      · rw [if_pos d8]; exact hk
      · rw [if_neg d8]
        exact FP_sq (FP_dn (IH 6 (k + 1) (d + 1) (H k hk (by omega)) (by decide)) (z := 1) (by omega) (by omega)) (fun e he1 he2 => FP_op (by decide) he2 (fun h _ => by unfold hC; rw [if_neg (by decide), if_pos (.inr rfl), if_pos (by omega)])) (z2 := 0) (by omega)
    rw [if_neg d4]
    by_cases d5 : g k = 25
    · rw [if_pos d5]
      by_cases d8 : 8 ≤ d
      · rw [if_pos d8]; exact hk
      · rw [if_neg d8]
        exact FP_sq (FP_dn (IH 4 (k + 1) (d + 1) (H k hk (by omega)) (by decide)) (z := 1) (by omega) (by omega)) (fun e he1 he2 => FP_tk H he2 (by decide)) (by omega)
    rw [if_neg d5]
    by_cases d6 : g k = 23 ∨ g k = 24
    · rw [if_pos d6]
      have hk1 := H k hk (by omega)
      by_cases d8 : 8 ≤ d
      · rw [if_pos d8]; exact hk1
      · rw [if_neg d8]
        have cb : g k = 21 ∨ g k = 22 ∨ g k = 23 ∨ g k = 24 ∨ (31 ≤ g k ∧ g k ≤ 39) := by omega
        have e1 : FP g K k 1 0 0 1 (tk1 g 25 (k + 1)) := FP_dn (FP_tk H hk1 (by decide)) (by omega) (by omega)
        refine FP_sq e1 (fun k1 _ h1 => ?_) (z2 := 0) (by omega)
        refine FP_sq (IH 4 k1 (d + 1) h1 (by decide)) (fun k2 _ h2 => ?_) (z2 := 0) (by omega)
        refine FP_sq (FP_tk H h2 (by decide)) (fun k3 _ h3 => ?_) (z2 := 0) (by omega)
        refine FP_sq (FP_up (IH 4 k3 (d + 1) h3 (by decide))) (fun k4 _ h4 => ?_) (z2 := 0) (by omega)
        refine FP_sq (FP_tk H h4 (by decide)) (fun k5 _ h5 => ?_) (z2 := 0) (by omega)
        exact FP_op (tkC_bi _ (by omega) cb) h5 (fun h _ => hC_bi cb)
    rw [if_neg d6]
    exact hk
/-! enough fuel -/
theorem sq_ne {x : Option (Option (List (Nat × Nat)) × Nat)} {f : Nat → Option (Option (List (Nat × Nat)) × Nat)} (h1 : x ≠ none) (h2 : ∀ es e, x = some (some es, e) → f e ≠ none) : sq x f ≠ none := by
  match x, h1, h2 with
  | none, h1, _ => exact absurd rfl h1
  | some (none, k1), _, _ => intro h; cases h
  | some (some es, k1), _, h2 =>
    have := h2 es k1 rfl
    intro h
    unfold sq at h
    match c : f k1 with
    | none => exact this c
    | some (none, k2) => simp only [c] at h; cases h
    | some (some es1, k2) => simp only [c] at h; cases h
theorem tk1_ne {g : Nat → Nat} {a k : Nat} : tk1 g a k ≠ none := by
  unfold tk1 ft
  split <;> (intro h; cases h)
theorem nm_ne {g : Nat → Nat} {a k : Nat} : nm g a k ≠ none := by
  unfold nm ft em
  split <;> (intro h; cases h)
theorem nb_ne {g : Nat → Nat} {a k : Nat} : nb g a k ≠ none := by
  unfold nb ft em
  split <;> (intro h; cases h)
theorem em_ne {e : Nat × Nat} {k : Nat} : em e k ≠ none := by intro h; cases h
theorem ft_ne {k : Nat} : ft k ≠ none := by intro h; cases h
theorem tk1_k {g : Nat → Nat} {a k : Nat} {es : List (Nat × Nat)} {e : Nat} (h : tk1 g a k = some (some es, e)) : e = k + 1 ∧ es = [] ∧ g k = a := by
  unfold tk1 ft at h
  by_cases c : g k = a
  · rw [if_pos c] at h; cases h; exact ⟨rfl, rfl, c⟩
  · rw [if_neg c] at h; cases h
theorem FP_e {g : Nat → Nat} {K k z u v w : Nat} {x : Option (Option (List (Nat × Nat)) × Nat)} {es : List (Nat × Nat)} {e : Nat} (h : FP g K k z u v w x) (hx : x = some (some es, e)) : e ≤ K ∧ k + z ≤ e := by
  subst hx; exact ⟨h.1, h.2.1⟩
theorem lpS_ne {g : Nat → Nat} {K a b : Nat} {f : Nat → Option (Option (List (Nat × Nat)) × Nat)} (H : ∀ i, i ≤ K → g i < 42 → i + 1 ≤ K) (ha : a < 42) (hb : b < 42) (hf : ∀ e, e ≤ K → f e ≠ none) (hF : ∀ e, e ≤ K → FP g K e 1 0 1 1 (f e)) : ∀ m k, k ≤ K → K + 1 ≤ m + k → lpS g a b f m k ≠ none
  | 0, k, hk, hm => by omega
  | m + 1, k, hk, hm => by
    rw [lpS]
    by_cases c : g k = a ∨ g k = b
    · rw [if_pos c]
      have hk1 := H k hk (by rcases c with h | h <;> omega)
      refine sq_ne (hf _ hk1) (fun es e he => ?_)
      have h1 := FP_e (hF _ hk1) he
      refine sq_ne em_ne (fun es1 e1 he1 => ?_)
      cases he1
      exact lpS_ne H ha hb hf hF m e h1.1 (by omega)
    · rw [if_neg c]; intro h; cases h
def rkP (j : Nat) : Nat := if j = 0 then 7 else if j = 1 then 6 else if j = 2 then 5 else if j = 3 then 4 else if j = 4 then 3 else if j = 5 then 2 else 1
theorem Px_ne {g : Nat → Nat} {K : Nat} (H : ∀ i, i ≤ K → g i < 42 → i + 1 ≤ K) (hK : K ≤ 400) : ∀ n j k d, k ≤ K → d ≤ 8 → rkP j + 7 * (8 - d) ≤ n → Px g n j k d ≠ none
  | 0, j, k, d, hk, hd, hn => by
    exfalso
    have : 1 ≤ rkP j := by unfold rkP; (repeat' split) <;> omega
    omega
  | n + 1, j, k, d, hk, hd, hn => by
    have IH := fun j k d hk => (FP_Px H n j k d hk).1
    have N := Px_ne H hK n
    have LP : ∀ a b j1, a < 42 → b < 42 → j1 ≠ 3 → rkP j1 + 7 * (8 - d) ≤ n → sq (Px g n j1 k d) (lpS g a b (fun k => Px g n j1 k d) 401) ≠ none := fun a b j1 ha hb hj h1 => by
      refine sq_ne (N j1 k d hk hd h1) (fun es e he => ?_)
      have h2 := FP_e (IH j1 k d hk hj) he
      exact lpS_ne H ha hb (fun e he => N j1 e d he hd h1) (fun e he => IH j1 e d he hj) 401 e h2.1 (by omega)
    rw [Px]
    by_cases c0 : j = 0
    · subst c0; rw [if_pos rfl]; exact LP 22 22 1 (by decide) (by decide) (by decide) (by have : rkP 0 = 7 := rfl; have : rkP 1 = 6 := rfl; omega)
    rw [if_neg c0]
    by_cases c1 : j = 1
    · subst c1; rw [if_pos rfl]; exact LP 21 21 2 (by decide) (by decide) (by decide) (by have : rkP 1 = 6 := rfl; have : rkP 2 = 5 := rfl; omega)
    rw [if_neg c1]
    have r0 : rkP 0 = 7 := rfl
    have r2 : rkP 2 = 5 := rfl
    have r3 : rkP 3 = 4 := rfl
    have r4 : rkP 4 = 3 := rfl
    have r5 : rkP 5 = 2 := rfl
    have r6 : rkP 6 = 1 := rfl
    by_cases c2 : j = 2
    · subst c2
      rw [if_pos rfl]
      by_cases d0 : g k = 20
      · rw [if_pos d0]
        by_cases d8 : 8 ≤ d
        · rw [if_pos d8]; exact ft_ne
        · rw [if_neg d8]
          exact sq_ne (N 2 (k + 1) (d + 1) (H k hk (by omega)) (by omega) (by omega)) (fun _ _ _ => em_ne)
      rw [if_neg d0]
      by_cases d1 : g k = 27
      · rw [if_pos d1]
        by_cases d8 : 8 ≤ d
        · rw [if_pos d8]; exact ft_ne
        · rw [if_neg d8]
          exact sq_ne (N 0 (k + 1) (d + 1) (H k hk (by omega)) (by omega) (by omega)) (fun _ _ _ => tk1_ne)
      rw [if_neg d1]
      by_cases d2 : g k = 19
      · rw [if_pos d2]; exact nm_ne
      rw [if_neg d2]
      refine sq_ne (N 4 k d hk hd (by omega)) (fun es e he => ?_)
      have h2 := FP_e (IH 4 k d hk (by decide)) he
      exact N 3 e d h2.1 hd (by omega)
    rw [if_neg c2]
    by_cases c3 : j = 3
    · subst c3
      rw [if_pos rfl]
      by_cases c : 35 ≤ g k ∧ g k ≤ 39
      · rw [if_pos c]
        exact sq_ne (N 4 (k + 1) d (H k hk (by omega)) hd (by omega)) (fun _ _ _ => em_ne)
      · rw [if_neg c]; exact ft_ne
    rw [if_neg c3]
    by_cases c4 : j = 4
    · subst c4; rw [if_pos rfl]; exact LP 31 32 5 (by decide) (by decide) (by decide) (by omega)
    rw [if_neg c4]
    by_cases c5 : j = 5
    · subst c5; rw [if_pos rfl]; exact LP 33 34 6 (by decide) (by decide) (by decide) (by omega)
    rw [if_neg c5]
    have rj : rkP j = 1 := by unfold rkP; rw [if_neg c0, if_neg c1, if_neg c2, if_neg c3, if_neg c4, if_neg c5]
    by_cases d0 : g k = 41
    · rw [if_pos d0]; exact em_ne
    rw [if_neg d0]
    by_cases d1 : g k = 15
    · rw [if_pos d1]; exact em_ne
    rw [if_neg d1]
    by_cases d2 : g k = 16 ∨ g k = 17 ∨ g k = 4
    · rw [if_pos d2]; exact nm_ne
    rw [if_neg d2]
    by_cases d3 : g k = 2 ∨ g k = 18
    · rw [if_pos d3]; exact nm_ne
    rw [if_neg d3]
    by_cases d4 : g k = 32
    · rw [if_pos d4]
      by_cases d8 : 8 ≤ d
      · rw [if_pos d8]; exact ft_ne
      · rw [if_neg d8]
        exact sq_ne (N 6 (k + 1) (d + 1) (H k hk (by omega)) (by omega) (by omega)) (fun _ _ _ => em_ne)
    rw [if_neg d4]
    by_cases d5 : g k = 25
    · rw [if_pos d5]
      by_cases d8 : 8 ≤ d
      · rw [if_pos d8]; exact ft_ne
      · rw [if_neg d8]
        exact sq_ne (N 4 (k + 1) (d + 1) (H k hk (by omega)) (by omega) (by omega)) (fun _ _ _ => tk1_ne)
    rw [if_neg d5]
    by_cases d6 : g k = 23 ∨ g k = 24
    · rw [if_pos d6]
      have hk1 := H k hk (by omega)
      by_cases d8 : 8 ≤ d
      · rw [if_pos d8]; exact ft_ne
      · rw [if_neg d8]
        refine sq_ne tk1_ne (fun es k1 e1 => ?_)
        have h1 : k1 ≤ K := by
          obtain ⟨a1, _, a3⟩ := tk1_k e1
          subst a1
          exact H _ hk1 (by omega)
        refine sq_ne (N 4 k1 (d + 1) h1 (by omega) (by omega)) (fun es k2 e2 => ?_)
        have h2 := (FP_e (IH 4 k1 (d + 1) h1 (by decide)) e2).1
        refine sq_ne tk1_ne (fun es k3 e3 => ?_)
        have h3 : k3 ≤ K := by
          obtain ⟨a1, _, a3⟩ := tk1_k e3
          subst a1
          exact H _ h2 (by omega)
        refine sq_ne (N 4 k3 (d + 1) h3 (by omega) (by omega)) (fun es k4 e4 => ?_)
        exact sq_ne tk1_ne (fun _ _ _ => em_ne)
    rw [if_neg d6]; exact ft_ne

