/-! ## Pure: a Shore is made -/
def parE (e : Nat) : Nat × Nat :=
  if e < 18 then [(0, 0), (0, 6), (0, 7), (0, 8), (0, 9), (0, 10), (5, 1), (5, 2), (5, 3), (0, 11), (0, 12), (0, 13), (0, 14), (12, 3), (0, 15), (14, 10), (0, 16), (16, 4)].getD e (0, 0)
  else if e < 34 then (if e % 2 = 0 then (1, (e - 18) / 2) else (e - 1, 3))
  else if e < 50 then (if e % 2 = 0 then (2, (e - 34) / 2) else (e - 1, 10))
  else if e < 74 then (3, e - 50)
  else (if e % 2 = 0 then (4, (e - 74) / 2) else (e - 1, 4))
theorem layR_p {d k e : Nat} (h : layR d k = some e) : e < 86 ∧ d < e ∧ parE e = (d, k) := by
  unfold layR at h
  by_cases c0 : d = 0
  · rw [if_pos c0] at h
    by_cases c1 : k < 6
    · rw [if_pos c1] at h; cases h
    · rw [if_neg c1] at h
      have hk : k - 6 < 11 := Classical.byContradiction fun z => by
        rw [List.getElem?_eq_none (by show 11 ≤ k - 6; omega)] at h
        cases h
      obtain ⟨j, hj, rfl⟩ : ∃ j, j < 11 ∧ k = j + 6 := ⟨k - 6, hk, by omega⟩
      rw [Nat.add_sub_cancel] at h
      subst c0
      have q := (by decide : ∀ j, j < 11 → ∀ e, e < 17 → [1, 2, 3, 4, 5, 9, 10, 11, 12, 14, 16][j]? = some e → 0 < e ∧ parE e = (0, j + 6))
      have he : e < 17 := (by decide : ∀ j, j < 11 → ([1, 2, 3, 4, 5, 9, 10, 11, 12, 14, 16][j]?).getD 0 < 17) j hj |> fun z => by rw [h] at z; exact z
      have w := q j hj e he h
      exact ⟨by omega, w.1, w.2⟩
  rw [if_neg c0] at h
  by_cases c1 : d = 1
  · rw [if_pos c1] at h
    by_cases c : k < 8
    · rw [if_pos c] at h
      cases h
      refine ⟨by omega, by omega, ?_⟩
      unfold parE
      rw [if_neg (by omega), if_pos (by omega), if_pos (by omega), c1, show (18 + 2 * k - 18) / 2 = k by omega]
    · rw [if_neg c] at h; cases h
  rw [if_neg c1] at h
  by_cases c2 : d = 2
  · rw [if_pos c2] at h
    by_cases c : k < 8
    · rw [if_pos c] at h
      cases h
      refine ⟨by omega, by omega, ?_⟩
      unfold parE
      rw [if_neg (by omega), if_neg (by omega), if_pos (by omega), if_pos (by omega), c2, show (34 + 2 * k - 34) / 2 = k by omega]
    · rw [if_neg c] at h; cases h
  rw [if_neg c2] at h
  by_cases c3 : d = 3
  · rw [if_pos c3] at h
    by_cases c : k < 24
    · rw [if_pos c] at h
      cases h
      refine ⟨by omega, by omega, ?_⟩
      unfold parE
      rw [if_neg (by omega), if_neg (by omega), if_neg (by omega), if_pos (by omega), c3, show 50 + k - 50 = k by omega]
    · rw [if_neg c] at h; cases h
  rw [if_neg c3] at h
  by_cases c4 : d = 4
  · rw [if_pos c4] at h
    by_cases c : k < 6
    · rw [if_pos c] at h
      cases h
      refine ⟨by omega, by omega, ?_⟩
      unfold parE
      rw [if_neg (by omega), if_neg (by omega), if_neg (by omega), if_neg (by omega), if_pos (by omega), c4, show (74 + 2 * k - 74) / 2 = k by omega]
    · rw [if_neg c] at h; cases h
  rw [if_neg c4] at h
  by_cases c5 : d = 5
  · rw [if_pos c5] at h
    subst c5
    by_cases c : k = 1
    · rw [if_pos c] at h; cases h; subst c; decide
    · rw [if_neg c] at h
      by_cases c : k = 2
      · rw [if_pos c] at h; cases h; subst c; decide
      · rw [if_neg c] at h
        by_cases c : k = 3
        · rw [if_pos c] at h; cases h; subst c; decide
        · rw [if_neg c] at h; cases h
  rw [if_neg c5] at h
  by_cases c12 : d = 12
  · rw [if_pos c12] at h
    by_cases c : k = 3
    · rw [if_pos c] at h; cases h; subst c; subst c12; decide
    · rw [if_neg c] at h; cases h
  rw [if_neg c12] at h
  by_cases c14 : d = 14
  · rw [if_pos c14] at h
    by_cases c : k = 10
    · rw [if_pos c] at h; cases h; subst c; subst c14; decide
    · rw [if_neg c] at h; cases h
  rw [if_neg c14] at h
  by_cases c16 : d = 16
  · rw [if_pos c16] at h
    by_cases c : k = 4
    · rw [if_pos c] at h; cases h; subst c; subst c16; decide
    · rw [if_neg c] at h; cases h
  rw [if_neg c16] at h
  by_cases cg : 18 ≤ d ∧ d < 34 ∧ d % 2 = 0
  · rw [if_pos cg] at h
    by_cases c : k = 3
    · rw [if_pos c] at h
      cases h
      refine ⟨by omega, by omega, ?_⟩
      unfold parE
      rw [if_neg (by omega), if_pos (by omega), if_neg (by omega), c, show d + 1 - 1 = d by omega]
    · rw [if_neg c] at h; cases h
  rw [if_neg cg] at h
  by_cases cf : 34 ≤ d ∧ d < 50 ∧ d % 2 = 0
  · rw [if_pos cf] at h
    by_cases c : k = 10
    · rw [if_pos c] at h
      cases h
      refine ⟨by omega, by omega, ?_⟩
      unfold parE
      rw [if_neg (by omega), if_neg (by omega), if_pos (by omega), if_neg (by omega), c, show d + 1 - 1 = d by omega]
    · rw [if_neg c] at h; cases h
  rw [if_neg cf] at h
  by_cases cp : 74 ≤ d ∧ d < 86 ∧ d % 2 = 0
  · rw [if_pos cp] at h
    by_cases c : k = 4
    · rw [if_pos c] at h
      cases h
      refine ⟨by omega, by omega, ?_⟩
      unfold parE
      rw [if_neg (by omega), if_neg (by omega), if_neg (by omega), if_neg (by omega), if_neg (by omega), c, show d + 1 - 1 = d by omega]
    · rw [if_neg c] at h; cases h
  rw [if_neg cp] at h
  cases h
/-- a block of n cells at o -/
def blk {α : Type} (o n : Nat) (F G : Nat → α) : Nat → α := fun a => if o ≤ a ∧ a < o + n then F (a - o) else G a
theorem blk_i {α : Type} {o n d : Nat} {F G : Nat → α} (h : d < n) : blk o n F G (o + d) = F d := by
  unfold blk
  rw [if_pos ⟨by omega, by omega⟩, Nat.add_sub_cancel_left]
theorem blk_o {α : Type} {o n a : Nat} {F G : Nat → α} (h : a < o ∨ o + n ≤ a) : blk o n F G a = G a := if_neg (by omega)
theorem blk_n {α : Type} {o n : Nat} {F G : Nat → α} {v : α} (h : F n = v) : up1 (blk o n F G) (o + n) v = blk o (n + 1) F G := by
  funext a
  by_cases c : a = o + n
  · rw [c, up1_e, blk_i (Nat.lt_succ_self n), h]
  · rw [up1_o c]
    unfold blk
    by_cases q : o ≤ a ∧ a < o + n
    · rw [if_pos q, if_pos (by omega)]
    · rw [if_neg q, if_neg (by omega)]
theorem blk_u {α : Type} {o n d k : Nat} {F G : Nat → Nat → α} {v : α} (h : d < n) : up2 (blk o n F G) (o + d) k v = blk o n (up2 F d k v) G := by
  funext a j
  by_cases c : a = o + d ∧ j = k
  · rw [c.1, c.2, up2_eq, blk_i h, up2_eq]
  · rw [up2_ne (by omega)]
    by_cases q : o ≤ a ∧ a < o + n
    · obtain ⟨d', rfl⟩ : ∃ d', a = o + d' := ⟨a - o, by omega⟩
      rw [blk_i (by omega), blk_i (by omega), up2_ne (by omega)]
    · rw [blk_o (by omega), blk_o (by omega)]
theorem blk_c {α : Type} {o n : Nat} {F F' G : Nat → α} (h : ∀ d, d < n → F d = F' d) : blk o n F G = blk o n F' G := by
  funext a
  unfold blk
  by_cases q : o ≤ a ∧ a < o + n
  · rw [if_pos q, if_pos q, h _ (by omega)]
  · rw [if_neg q, if_neg q]
def mkB (o n : Nat) (T L : Nat → Nat) (I : Nat → Nat → Int32) (R : Nat → Nat → Option Nat) (M : gMem) : gMem :=
  (blk o n T (mT M), blk o n L (mL M), blk o n I (mI M), blk o n R (mR M), blk o n (fun _ _ => 0) (mJ M), o + n)
theorem mkB_0 {o : Nat} {T L : Nat → Nat} {I : Nat → Nat → Int32} {R : Nat → Nat → Option Nat} {M : gMem} (e : mN M = o) : M = mkB o 0 T L I R M := by
  have b : ∀ {α : Type} (F G : Nat → α), blk o 0 F G = G := fun F G => funext fun a => if_neg (by omega)
  unfold mkB
  rw [b, b, b, b, b, Nat.add_zero, ← e]
theorem mkB_n {o n t l : Nat} {T L : Nat → Nat} {I : Nat → Nat → Int32} {R : Nat → Nat → Option Nat} {M : gMem} (ht : T n = t) (hl : L n = l) (hi : I n = fun _ => 0) (hr : R n = fun _ => none) : nW (mkB o n T L I R M) t l = mkB o (n + 1) T L I R M := by
  show (up1 (blk o n T (mT M)) (o + n) t, up1 (blk o n L (mL M)) (o + n) l, up1 (blk o n I (mI M)) (o + n) (fun _ => 0), up1 (blk o n R (mR M)) (o + n) (fun _ => none), up1 (blk o n (fun _ _ => 0) (mJ M)) (o + n) (fun _ => 0), o + n + 1) = _
  rw [blk_n ht, blk_n hl, blk_n hi, blk_n hr, blk_n rfl]
  rfl
theorem mkB_I {o n d k : Nat} {v : Int32} {T L : Nat → Nat} {I : Nat → Nat → Int32} {R : Nat → Nat → Option Nat} {M : gMem} (h : d < n) : wI (mkB o n T L I R M) (o + d) k v = mkB o n T L (up2 I d k v) R M := by
  show (blk o n T (mT M), blk o n L (mL M), up2 (blk o n I (mI M)) (o + d) k v, blk o n R (mR M), blk o n (fun _ _ => 0) (mJ M), o + n) = _
  rw [blk_u h]
  rfl
theorem mkB_R {o n d k : Nat} {v : Option Nat} {T L : Nat → Nat} {I : Nat → Nat → Int32} {R : Nat → Nat → Option Nat} {M : gMem} (h : d < n) : wR (mkB o n T L I R M) (o + d) k v = mkB o n T L I (up2 R d k v) M := by
  show (blk o n T (mT M), blk o n L (mL M), blk o n I (mI M), up2 (blk o n R (mR M)) (o + d) k v, blk o n (fun _ _ => 0) (mJ M), o + n) = _
  rw [blk_u h]
  rfl
/-- the references, as far as P tells -/
noncomputable def rSh (o : Nat) (w : Nat → Option Nat) (P : Nat → Prop) (d k : Nat) : Option Nat := if d = 6 then w k else (layR d k).bind (fun e => cif (P e) (some (o + e)) none)
theorem rSh_u {o d k e : Nat} {w : Nat → Option Nat} {P : Nat → Prop} (h : layR d k = some e) (h6 : d ≠ 6) : up2 (rSh o w P) d k (some (o + e)) = rSh o w (fun x => P x ∨ x = e) := by
  funext d' k'
  by_cases c : d' = d ∧ k' = k
  · rw [c.1, c.2, up2_eq]
    unfold rSh
    rw [if_neg h6, h]
    exact (cif_t (.inr rfl)).symm
  · rw [up2_ne (by omega)]
    unfold rSh
    by_cases c6 : d' = 6
    · rw [if_pos c6, if_pos c6]
    · rw [if_neg c6, if_neg c6]
      cases q : layR d' k' with
      | none => rfl
      | some e' =>
        have ne : e' ≠ e := fun z => by
          have p1 := (layR_p h).2.2
          have p2 := (layR_p q).2.2
          rw [z, p1] at p2
          injection p2 with z1 z2
          exact c ⟨z1.symm, z2.symm⟩
        show cif (P e') (some (o + e')) none = cif (P e' ∨ e' = e) (some (o + e')) none
        by_cases p : P e'
        · rw [cif_t p, cif_t (.inl p)]
        · rw [cif_f p, cif_f (fun z => z.elim p ne)]
theorem rSh_n {o n : Nat} {w : Nat → Option Nat} {P : Nat → Prop} (h : ∀ x, P x → x ≤ n) (h6 : n = 6 → w = fun _ => none) : rSh o w P n = fun _ => none := by
  funext k
  unfold rSh
  by_cases c : n = 6
  · rw [if_pos c, h6 c]
  · rw [if_neg c]
    cases q : layR n k with
    | none => rfl
    | some e =>
      have := (layR_p q).2.1
      exact cif_f (fun z => by have := h e z; omega)
theorem rSh_v {o d k e : Nat} {w : Nat → Option Nat} {P : Nat → Prop} (h : layR d k = some e) (h6 : d ≠ 6) (p : P e) : rSh o w P d k = some (o + e) := by
  unfold rSh
  rw [if_neg h6, h]
  exact cif_t p
theorem rSh_c {o : Nat} {w : Nat → Option Nat} {P Q : Nat → Prop} (h : ∀ x, P x ↔ Q x) : rSh o w P = rSh o w Q := by
  have : P = Q := funext fun x => propext (h x)
  rw [this]
/-- the ints of a new Shore -/
def IN (d k : Nat) : Int32 :=
  if d = 0 then (if k = 1 then 1 else 0)
  else if d = 14 ∨ (34 ≤ d ∧ d < 50 ∧ d % 2 = 0) then (if k = 6 then -1 else 0)
  else if d = 16 ∨ (74 ≤ d ∧ d % 2 = 0) then (if k = 0 then -1 else 0)
  else 0
/-- n cells of a new Shore stand -/
noncomputable def shS (o n : Nat) (w : Nat → Option Nat) (P : Nat → Prop) (M : gMem) : gMem := mkB o n layT layL IN (rSh o w P) M

