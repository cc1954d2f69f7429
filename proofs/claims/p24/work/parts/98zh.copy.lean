/-! ## Pure: the class copies its Shore -/
theorem lTo {o : Nat} {M : gMem} (L : LC o M) : mT M o = 7 := (L 0 (by omega)).1
theorem lT_1 {o : Nat} {M : gMem} (L : LC o M) : mT M (o + 1) = 23 := (L 1 (by omega)).1
theorem lT_2 {o : Nat} {M : gMem} (L : LC o M) : mT M (o + 2) = 24 := (L 2 (by omega)).1
theorem lT_3 {o : Nat} {M : gMem} (L : LC o M) : mT M (o + 3) = 25 := (L 3 (by omega)).1
theorem lT_4 {o : Nat} {M : gMem} (L : LC o M) : mT M (o + 4) = 26 := (L 4 (by omega)).1
theorem lT_5 {o : Nat} {M : gMem} (L : LC o M) : mT M (o + 5) = 8 := (L 5 (by omega)).1
theorem lT_6 {o : Nat} {M : gMem} (L : LC o M) : mT M (o + 6) = 27 := (L 6 (by omega)).1
theorem lT_7 {o : Nat} {M : gMem} (L : LC o M) : mT M (o + 7) = 20 := (L 7 (by omega)).1
theorem lL_1 {o : Nat} {M : gMem} (L : LC o M) : mL M (o + 1) = 8 := (L 1 (by omega)).2.1
theorem lL_2 {o : Nat} {M : gMem} (L : LC o M) : mL M (o + 2) = 8 := (L 2 (by omega)).2.1
theorem lL_3 {o : Nat} {M : gMem} (L : LC o M) : mL M (o + 3) = 24 := (L 3 (by omega)).2.1
theorem lL_4 {o : Nat} {M : gMem} (L : LC o M) : mL M (o + 4) = 6 := (L 4 (by omega)).2.1
theorem lL_6 {o : Nat} {M : gMem} (L : LC o M) : mL M (o + 6) = 400 := (L 6 (by omega)).2.1
theorem lL_7 {o : Nat} {M : gMem} (L : LC o M) : mL M (o + 7) = 400 := (L 7 (by omega)).2.1
theorem lR0_6 {o : Nat} {M : gMem} (L : LC o M) : mR M o 6 = some (o + 1) := (L 0 (by omega)).2.2 (by omega) 6
theorem lR0_7 {o : Nat} {M : gMem} (L : LC o M) : mR M o 7 = some (o + 2) := (L 0 (by omega)).2.2 (by omega) 7
theorem lR0_8 {o : Nat} {M : gMem} (L : LC o M) : mR M o 8 = some (o + 3) := (L 0 (by omega)).2.2 (by omega) 8
theorem lR0_9 {o : Nat} {M : gMem} (L : LC o M) : mR M o 9 = some (o + 4) := (L 0 (by omega)).2.2 (by omega) 9
theorem lR0_10 {o : Nat} {M : gMem} (L : LC o M) : mR M o 10 = some (o + 5) := (L 0 (by omega)).2.2 (by omega) 10
theorem lR5_1 {o : Nat} {M : gMem} (L : LC o M) : mR M (o + 5) 1 = some (o + 6) := (L 5 (by omega)).2.2 (by omega) 1
theorem lR5_2 {o : Nat} {M : gMem} (L : LC o M) : mR M (o + 5) 2 = some (o + 7) := (L 5 (by omega)).2.2 (by omega) 2
theorem lTg {o i : Nat} {M : gMem} (L : LC o M) (h : i < 8) : mT M (o + (18 + 2 * i)) = 3 := cTg (sg := fun _ _ => 0) L h
theorem lRg {o i : Nat} {M : gMem} (L : LC o M) (h : i < 8) : mR M (o + (18 + 2 * i)) 3 = some (o + (19 + 2 * i)) := cRg (sg := fun _ _ => 0) L h
theorem lTgf {o i : Nat} {M : gMem} (L : LC o M) (h : i < 8) : mT M (o + (19 + 2 * i)) = 20 := cTgf (sg := fun _ _ => 0) L h
theorem lLgf {o i : Nat} {M : gMem} (L : LC o M) (h : i < 8) : mL M (o + (19 + 2 * i)) = 6 := cLgf (sg := fun _ _ => 0) L h
theorem lTf {o i : Nat} {M : gMem} (L : LC o M) (h : i < 8) : mT M (o + (34 + 2 * i)) = 1 := cTf (sg := fun _ _ => 0) L h
theorem lRf {o i : Nat} {M : gMem} (L : LC o M) (h : i < 8) : mR M (o + (34 + 2 * i)) 10 = some (o + (35 + 2 * i)) := cRf (sg := fun _ _ => 0) L h
theorem lTft {o i : Nat} {M : gMem} (L : LC o M) (h : i < 8) : mT M (o + (35 + 2 * i)) = 20 := cTft (sg := fun _ _ => 0) L h
theorem lLft {o i : Nat} {M : gMem} (L : LC o M) (h : i < 8) : mL M (o + (35 + 2 * i)) = 8 := cLft (sg := fun _ _ => 0) L h
theorem lTgo {o i : Nat} {M : gMem} (L : LC o M) (h : i < 24) : mT M (o + (50 + i)) = 2 := cTgo (sg := fun _ _ => 0) L h
theorem lTp {o i : Nat} {M : gMem} (L : LC o M) (h : i < 6) : mT M (o + (74 + 2 * i)) = 5 := cTp (sg := fun _ _ => 0) L h
theorem lRp {o i : Nat} {M : gMem} (L : LC o M) (h : i < 6) : mR M (o + (74 + 2 * i)) 4 = some (o + (75 + 2 * i)) := cRp (sg := fun _ _ => 0) L h
theorem lTpf {o i : Nat} {M : gMem} (L : LC o M) (h : i < 6) : mT M (o + (75 + 2 * i)) = 20 := cTpf (sg := fun _ _ => 0) L h
theorem lLpf {o i : Nat} {M : gMem} (L : LC o M) (h : i < 6) : mL M (o + (75 + 2 * i)) = 8 := cLpf (sg := fun _ _ => 0) L h
theorem lRrg {o i : Nat} {M : gMem} (L : LC o M) (h : i < 8) : mR M (o + 1) i = some (o + (18 + 2 * i)) := cRrg (sg := fun _ _ => 0) L h
theorem lRrf {o i : Nat} {M : gMem} (L : LC o M) (h : i < 8) : mR M (o + 2) i = some (o + (34 + 2 * i)) := cRrf (sg := fun _ _ => 0) L h
theorem lRrgo {o i : Nat} {M : gMem} (L : LC o M) (h : i < 24) : mR M (o + 3) i = some (o + (50 + i)) := cRrgo (sg := fun _ _ => 0) L h
theorem lRrp {o i : Nat} {M : gMem} (L : LC o M) (h : i < 6) : mR M (o + 4) i = some (o + (74 + 2 * i)) := cRrp (sg := fun _ _ => 0) L h
/-- what a copy of a Shore copies -/
abbrev cpB (jg jf jo jp : Nat) (d k : Nat) : Prop := (d = 0 ∧ k < 6) ∨ (18 ≤ d ∧ d < 18 + 2 * jg ∧ ((d % 2 = 0 ∧ k < 3) ∨ (d % 2 = 1 ∧ 1 ≤ k ∧ k < 6))) ∨ (34 ≤ d ∧ d < 34 + 2 * jf ∧ ((d % 2 = 0 ∧ k < 10) ∨ (d % 2 = 1 ∧ k < 8))) ∨ (50 ≤ d ∧ d < 50 + jo ∧ k < 4) ∨ (74 ≤ d ∧ d < 74 + 2 * jp ∧ ((d % 2 = 0 ∧ (k < 4 ∨ (5 ≤ k ∧ k < 8))) ∨ (d % 2 = 1 ∧ k < 8)))
theorem or5_2 {A B C D E N R : Prop} (h : N ↔ B ∨ R) : (A ∨ N ∨ C ∨ D ∨ E) ↔ ((A ∨ B ∨ C ∨ D ∨ E) ∨ R) := by
  rw [h]
  constructor
  · rintro (z | (z | z) | z)
    · exact .inl (.inl z)
    · exact .inl (.inr (.inl z))
    · exact .inr z
    · exact .inl (.inr (.inr z))
  · rintro ((z | z | z) | z)
    · exact .inl z
    · exact .inr (.inl (.inl z))
    · exact .inr (.inr z)
    · exact .inr (.inl (.inr z))
theorem or5_3 {A B C D E N R : Prop} (h : N ↔ C ∨ R) : (A ∨ B ∨ N ∨ D ∨ E) ↔ ((A ∨ B ∨ C ∨ D ∨ E) ∨ R) := by
  rw [h]
  constructor
  · rintro (z | z | (z | z) | z)
    · exact .inl (.inl z)
    · exact .inl (.inr (.inl z))
    · exact .inl (.inr (.inr (.inl z)))
    · exact .inr z
    · exact .inl (.inr (.inr (.inr z)))
  · rintro ((z | z | z | z) | z)
    · exact .inl z
    · exact .inr (.inl z)
    · exact .inr (.inr (.inl (.inl z)))
    · exact .inr (.inr (.inr z))
    · exact .inr (.inr (.inl (.inr z)))
theorem or5_4 {A B C D E N R : Prop} (h : N ↔ D ∨ R) : (A ∨ B ∨ C ∨ N ∨ E) ↔ ((A ∨ B ∨ C ∨ D ∨ E) ∨ R) := by
  rw [h]
  constructor
  · rintro (z | z | z | (z | z) | z)
    · exact .inl (.inl z)
    · exact .inl (.inr (.inl z))
    · exact .inl (.inr (.inr (.inl z)))
    · exact .inl (.inr (.inr (.inr (.inl z))))
    · exact .inr z
    · exact .inl (.inr (.inr (.inr (.inr z))))
  · rintro ((z | z | z | z | z) | z)
    · exact .inl z
    · exact .inr (.inl z)
    · exact .inr (.inr (.inl z))
    · exact .inr (.inr (.inr (.inl (.inl z))))
    · exact .inr (.inr (.inr (.inr z)))
    · exact .inr (.inr (.inr (.inl (.inr z))))
theorem or5_5 {A B C D E N R : Prop} (h : N ↔ E ∨ R) : (A ∨ B ∨ C ∨ D ∨ N) ↔ ((A ∨ B ∨ C ∨ D ∨ E) ∨ R) := by
  rw [h]
  simp only [or_assoc]
/-- the ints that P names of the Shore o' are those of o -/
noncomputable def cpD (P : Nat → Nat → Prop) (o' o : Nat) (M : gMem) : gMem := sI M (fun c k => cif ((o' ≤ c ∧ c < o' + 86) ∧ P (c - o') k) (mI M (o + (c - o')) k) (mI M c k))
theorem cpD_o {P : Nat → Nat → Prop} {o' o a : Nat} {M : gMem} (h : a < o' ∨ o' + 86 ≤ a) : mI (cpD P o' o M) a = mI M a := by
  funext k
  exact cif_f (fun z => by have := z.1; omega)
theorem cpD_i {P : Nat → Nat → Prop} {o' o d k : Nat} {M : gMem} (hd : d < 86) (h : P d k) : mI (cpD P o' o M) (o' + d) k = mI M (o + d) k := by
  show cif ((o' ≤ o' + d ∧ o' + d < o' + 86) ∧ P (o' + d - o') k) (mI M (o + (o' + d - o')) k) (mI M (o' + d) k) = _
  rw [Nat.add_sub_cancel_left]
  exact cif_t ⟨by omega, h⟩
theorem cpD_n {P : Nat → Nat → Prop} {o' o d k : Nat} {M : gMem} (h : ¬ P d k) : mI (cpD P o' o M) (o' + d) k = mI M (o' + d) k := by
  show cif ((o' ≤ o' + d ∧ o' + d < o' + 86) ∧ P (o' + d - o') k) (mI M (o + (o' + d - o')) k) (mI M (o' + d) k) = _
  rw [Nat.add_sub_cancel_left]
  exact cif_f (fun z => h z.2)
theorem cpD_F {o' o : Nat} {M : gMem} : cpD (fun _ _ => False) o' o M = M := by
  unfold cpD
  have e : (fun c k => cif ((o' ≤ c ∧ c < o' + 86) ∧ False) (mI M (o + (c - o')) k) (mI M c k)) = mI M := by
    funext c k
    exact cif_f (fun z => z.2)
  rw [e]
  rfl
theorem cpD_e {P : Nat → Nat → Prop} {o' o : Nat} {M : gMem} {I : Nat → Nat → Int32} (h1 : ∀ c, (c < o' ∨ o' + 86 ≤ c) → I c = mI M c) (h2 : ∀ d k, d < 86 → P d k → I (o' + d) k = mI M (o + d) k) (h3 : ∀ d k, d < 86 → ¬ P d k → I (o' + d) k = mI M (o' + d) k) : sI M I = cpD P o' o M := by
  unfold cpD
  congr 1
  funext c k
  by_cases q : o' ≤ c ∧ c < o' + 86
  · obtain ⟨d, rfl⟩ : ∃ d, c = o' + d := ⟨c - o', by omega⟩
    rw [Nat.add_sub_cancel_left]
    by_cases q2 : P d k
    · rw [cif_t ⟨q, q2⟩]; exact h2 d k (by omega) q2
    · rw [cif_f (fun z => q2 z.2)]; exact h3 d k (by omega) q2
  · rw [cif_f (fun z => q z.1), h1 c (by omega)]
theorem cpD_S {P P' : Nat → Nat → Prop} {D : Nat → Nat → Bool} {o o' e : Nat} {M : gMem} (ho : o + 86 ≤ o' ∨ o' + 86 ≤ o) (he : e + 1 < 86) (h : ∀ d k, P' d k ↔ P d k ∨ ((d = e ∨ d = e + 1) ∧ D (d - e) k = true)) : cpS D (o' + e) (o + e) (cpD P o' o M) = cpD P' o' o M := by
  unfold cpS
  show sI M (fun c k => if (c = o' + e ∨ c = o' + e + 1) ∧ D (c - (o' + e)) k = true then mI (cpD P o' o M) (o + e + (c - (o' + e))) k else mI (cpD P o' o M) c k) = _
  refine cpD_e (fun c hc => ?_) (fun d k hd q => ?_) (fun d k hd q => ?_)
  · funext k
    rw [if_neg (fun z => by have := z.1; omega), cpD_o hc]
  · show (if (o' + d = o' + e ∨ o' + d = o' + e + 1) ∧ D (o' + d - (o' + e)) k = true then mI (cpD P o' o M) (o + e + (o' + d - (o' + e))) k else mI (cpD P o' o M) (o' + d) k) = _
    rw [show o' + d - (o' + e) = d - e by omega]
    by_cases q2 : (d = e ∨ d = e + 1) ∧ D (d - e) k = true
    · rw [if_pos ⟨by omega, q2.2⟩, cpD_o (by omega), show o + e + (d - e) = o + d by omega]
    · rw [if_neg (fun z => q2 ⟨by omega, z.2⟩), cpD_i hd (((h d k).mp q).resolve_right q2)]
  · show (if (o' + d = o' + e ∨ o' + d = o' + e + 1) ∧ D (o' + d - (o' + e)) k = true then mI (cpD P o' o M) (o + e + (o' + d - (o' + e))) k else mI (cpD P o' o M) (o' + d) k) = _
    rw [show o' + d - (o' + e) = d - e by omega]
    have q3 : ¬ ((d = e ∨ d = e + 1) ∧ D (d - e) k = true) := fun z => q ((h d k).mpr (.inr z))
    rw [if_neg (fun z => q3 ⟨by omega, z.2⟩), cpD_n (fun z => q ((h d k).mpr (.inl z)))]
theorem cpD_L {P P' : Nat → Nat → Prop} {l : List Nat} {o o' e : Nat} {M : gMem} (ho : o + 86 ≤ o' ∨ o' + 86 ≤ o) (he : e < 86) (h : ∀ d k, P' d k ↔ P d k ∨ (d = e ∧ k ∈ l)) : wL (o' + e) (o + e) l (cpD P o' o M) = cpD P' o' o M := by
  rw [wL_s (by omega)]
  show sI M (fun c k => if c = o' + e ∧ k ∈ l then mI (cpD P o' o M) (o + e) k else mI (cpD P o' o M) c k) = _
  refine cpD_e (fun c hc => ?_) (fun d k hd q => ?_) (fun d k hd q => ?_)
  · funext k
    rw [if_neg (fun z => by have := z.1; omega), cpD_o hc]
  · show (if o' + d = o' + e ∧ k ∈ l then mI (cpD P o' o M) (o + e) k else mI (cpD P o' o M) (o' + d) k) = _
    by_cases q2 : d = e ∧ k ∈ l
    · rw [if_pos ⟨by omega, q2.2⟩, cpD_o (by omega), q2.1]
    · rw [if_neg (fun z => q2 ⟨by omega, z.2⟩), cpD_i hd (((h d k).mp q).resolve_right q2)]
  · show (if o' + d = o' + e ∧ k ∈ l then mI (cpD P o' o M) (o + e) k else mI (cpD P o' o M) (o' + d) k) = _
    have q3 : ¬ (d = e ∧ k ∈ l) := fun z => q ((h d k).mpr (.inr z))
    rw [if_neg (fun z => q3 ⟨by omega, z.2⟩), cpD_n (fun z => q ((h d k).mpr (.inl z)))]
/-- the sums of the Shore o' are those of o, as far as j -/
def cpV (o' o j : Nat) (M : gMem) : gMem := (mT M, mL M, (fun c k => if (c = o' + 5 ∧ k = 0) ∨ (c = o' + 7 ∧ k < j) then mI M (o + (c - o')) k else mI M c k), (fun c k => if c = o' + 6 ∧ k < j then mR M (o + 6) k else mR M c k), mJ M, mN M)
theorem cpV_o {o' o j a : Nat} {M : gMem} (h1 : a ≠ o' + 5) (h2 : a ≠ o' + 7) : mI (cpV o' o j M) a = mI M a := by
  funext k
  exact if_neg (by omega)
theorem cpV_r {o' o j a : Nat} {M : gMem} (h1 : a ≠ o' + 6) : mR (cpV o' o j M) a = mR M a := by
  funext k
  exact if_neg (by omega)
theorem wR_n {M : gMem} {a k b j : Nat} {v : Option Nat} (h : b ≠ a ∨ j ≠ k) : mR (wR M a k v) b j = mR M b j := up2_ne h
theorem cpV_0 {o' o : Nat} {M : gMem} : wI M (o' + 5) 0 (mI M (o + 5) 0) = cpV o' o 0 M := by
  have e1 : up2 (mI M) (o' + 5) 0 (mI M (o + 5) 0) = fun c k => if (c = o' + 5 ∧ k = 0) ∨ (c = o' + 7 ∧ k < 0) then mI M (o + (c - o')) k else mI M c k := by
    funext c k
    show (if c = o' + 5 ∧ k = 0 then _ else _) = _
    by_cases q : c = o' + 5 ∧ k = 0
    · rw [if_pos q, if_pos (Or.inl q), q.1, q.2, Nat.add_sub_cancel_left]
    · rw [if_neg q, if_neg (by omega)]
  have e2 : (fun c k => if c = o' + 6 ∧ k < 0 then mR M (o + 6) k else mR M c k) = mR M := by
    funext c k
    exact if_neg (by omega)
  unfold cpV wI
  rw [e1, e2]
theorem cpV_s {o' o j : Nat} {M : gMem} (ho : o + 86 ≤ o' ∨ o' + 86 ≤ o) : wI (wR (cpV o' o j M) (o' + 6) j (mR M (o + 6) j)) (o' + 7) j (mI M (o + 7) j) = cpV o' o (j + 1) M := by
  have e1 : up2 (mI (cpV o' o j M)) (o' + 7) j (mI M (o + 7) j) = fun c k => if (c = o' + 5 ∧ k = 0) ∨ (c = o' + 7 ∧ k < j + 1) then mI M (o + (c - o')) k else mI M c k := by
    funext c k
    show (if c = o' + 7 ∧ k = j then _ else if (c = o' + 5 ∧ k = 0) ∨ (c = o' + 7 ∧ k < j) then mI M (o + (c - o')) k else mI M c k) = _
    by_cases q : c = o' + 7 ∧ k = j
    · rw [if_pos q, if_pos (by omega), q.1, q.2, Nat.add_sub_cancel_left]
    · rw [if_neg q]
      by_cases q2 : (c = o' + 5 ∧ k = 0) ∨ (c = o' + 7 ∧ k < j)
      · rw [if_pos q2, if_pos (by omega)]
      · rw [if_neg q2, if_neg (by omega)]
  have e2 : up2 (mR (cpV o' o j M)) (o' + 6) j (mR M (o + 6) j) = fun c k => if c = o' + 6 ∧ k < j + 1 then mR M (o + 6) k else mR M c k := by
    funext c k
    show (if c = o' + 6 ∧ k = j then _ else if c = o' + 6 ∧ k < j then mR M (o + 6) k else mR M c k) = _
    by_cases q : c = o' + 6 ∧ k = j
    · rw [if_pos q, if_pos (by omega), q.2]
    · rw [if_neg q]
      by_cases q2 : c = o' + 6 ∧ k < j
      · rw [if_pos q2, if_pos (by omega)]
      · rw [if_neg q2, if_neg (by omega)]
  show (mT M, mL M, up2 (mI (cpV o' o j M)) (o' + 7) j (mI M (o + 7) j), up2 (mR (cpV o' o j M)) (o' + 6) j (mR M (o + 6) j), mJ M, mN M) = _
  rw [e1, e2]
  rfl
theorem s9_copy {Z pg : Nat → Nat} {o o' len : Nat} {X : gMem} (L : LC o X) (L' : LC o' X) (ho : o + 86 ≤ o' ∨ o' + 86 ≤ o) (hZ : ∀ a b : Nat, a < 45 → b < 45 → Z a = Z b → a = b) (h5 : mI X (o + 5) 0 = nI len) (hlen : len ≤ 400) (hs : ∀ i, i < len → pg i < 45 ∧ mR X (o + 6) i = some (Z (pg i))) : f_X9_copyFrom Z X (o' + 5) (some (o + 5)) = some ((), cpV o' o len X) := by
  unfold f_X9_copyFrom b_X9_copyFrom_0 lp_X9_copyFrom_10
  rw [dr_S, ck_t (lT_5 L), ck_t (lT_5 L'), lw_S, cpV_0]
  refine lp_seq (f := fun (q : gMem × Int32) => bb_X9_copyFrom_10 Z q.1 (o' + 5) (some (o + 5)) q.2) (fun j => (cpV o' o j X, nI j)) 0 len (Nat.zero_le _) (fun j _ hj => ?_) ?_
  · show bb_X9_copyFrom_10 Z (cpV o' o j X) (o' + 5) (some (o + 5)) (nI j) = _
    have q1 : ¬ nI len ≤ nI j := fun z => by have := (nI_leI (by omega) (by omega)).mp z; omega
    have q2 : inb (nI j) 400 := (inbN (by omega)).mpr (by omega)
    have c5 : mI (cpV o' o j X) (o' + 5) 0 = nI len := by
      rw [← h5]
      show (if _ then mI X (o + (o' + 5 - o')) 0 else _) = _
      rw [if_pos (Or.inl ⟨rfl, rfl⟩), Nat.add_sub_cancel_left]
    obtain ⟨s1, s2⟩ := hs j hj
    have r6 : mR (cpV o' o j X) (o + 6) (nI j).toNatClampNeg = mR X (o + 6) j := by rw [cpV_r (by omega), nI_clamp (by omega)]
    have i7 : mI (cpV o' o j X) (o + 7) (nI j).toNatClampNeg = mI X (o + 7) j := by rw [cpV_o (by omega) (by omega), nI_clamp (by omega)]
    have q6 : inb (nI j) (mL X (o + 6)) := by rw [lL_6 L]; exact q2
    have q6' : inb (nI j) (mL X (o' + 6)) := by rw [lL_6 L']; exact q2
    have q7 : inb (nI j) (mL X (o + 7)) := by rw [lL_7 L]; exact q2
    have q7' : inb (nI j) (mL X (o' + 7)) := by rw [lL_7 L']; exact q2
    unfold bb_X9_copyFrom_10
    rw [ck_t (show mT (cpV o' o j X) (o' + 5) = 8 from (lT_5 L' : mT X (o' + 5) = 8)), c5, if_neg q1, dr_S, ck_t (show mT (cpV o' o j X) (o + 5) = 8 from (lT_5 L : mT X (o + 5) = 8)), dr_s (show mR (cpV o' o j X) (o + 5) 1 = some (o + 6) by rw [cpV_r (by omega)]; exact lR5_1 L), ck_t (show mT (cpV o' o j X) (o + 6) = 27 from (lT_6 L : mT X (o + 6) = 27)), ck_t (c := inb (nI j) (mL (cpV o' o j X) (o + 6))) q6, dr_s (show mR (cpV o' o j X) (o' + 5) 1 = some (o' + 6) by rw [cpV_r (by omega)]; exact lR5_1 L'), ck_t (show mT (cpV o' o j X) (o' + 6) = 27 from (lT_6 L' : mT X (o' + 6) = 27)), ck_t (c := inb (nI j) (mL (cpV o' o j X) (o' + 6))) q6', r6, dr_s (show ordZ Z (mR X (o + 6) j) = some (pg j) by rw [s2]; exact ordZ_e hZ s1), lw_S]
    rw [dr_s (show mR (wR (cpV o' o j X) (o' + 6) (nI j).toNatClampNeg (mR X (o + 6) j)) (o + 5) 2 = some (o + 7) by rw [wR_n (.inl (by omega)), cpV_r (by omega)]; exact lR5_2 L), ck_t (c := mT (wR (cpV o' o j X) (o' + 6) (nI j).toNatClampNeg (mR X (o + 6) j)) (o + 7) = 20) (lT_7 L : mT X (o + 7) = 20), ck_t (c := inb (nI j) (mL (wR (cpV o' o j X) (o' + 6) (nI j).toNatClampNeg (mR X (o + 6) j)) (o + 7))) q7, dr_s (show mR (wR (cpV o' o j X) (o' + 6) (nI j).toNatClampNeg (mR X (o + 6) j)) (o' + 5) 2 = some (o' + 7) by rw [wR_n (.inl (by omega)), cpV_r (by omega)]; exact lR5_2 L'), ck_t (c := mT (wR (cpV o' o j X) (o' + 6) (nI j).toNatClampNeg (mR X (o + 6) j)) (o' + 7) = 20) (lT_7 L' : mT X (o' + 7) = 20), ck_t (c := inb (nI j) (mL (wR (cpV o' o j X) (o' + 6) (nI j).toNatClampNeg (mR X (o + 6) j)) (o' + 7))) q7', show mI (wR (cpV o' o j X) (o' + 6) (nI j).toNatClampNeg (mR X (o + 6) j)) (o + 7) (nI j).toNatClampNeg = mI X (o + 7) j from i7, lw_S, nI_clamp (by omega), cpV_s ho, nI_1]
  · show bb_X9_copyFrom_10 Z (cpV o' o len X) (o' + 5) (some (o + 5)) (nI len) = _
    have c5 : mI (cpV o' o len X) (o' + 5) 0 = nI len := by
      rw [← h5]
      show (if _ then mI X (o + (o' + 5 - o')) 0 else _) = _
      rw [if_pos (Or.inl ⟨rfl, rfl⟩), Nat.add_sub_cancel_left]
    unfold bb_X9_copyFrom_10
    rw [ck_t (show mT (cpV o' o len X) (o' + 5) = 8 from (lT_5 L' : mT X (o' + 5) = 8)), c5, if_pos (nI_le (Nat.le_refl _) (by omega))]
    rfl
theorem s7_cp_p {Z : Nat → Nat} {o o' G F ng np : Nat} {M R : gMem} (L : LC o M) (L' : LC o' M) (ho : o + 86 ≤ o' ∨ o' + 86 ≤ o) (hb : np ≤ 6) (hc : mI M o 5 = nI np) (nx : f_X9_copyFrom Z (cpD (cpB G F ng np) o' o M) (o' + 5) (some (o + 5)) = some ((), R)) : lp_X7_copyFrom_143 Z (cpD (cpB G F ng 0) o' o M) o' (some o) (nI 0) = some ((), R) := by
  unfold lp_X7_copyFrom_143
  refine lp_seq (f := fun (q : gMem × Int32) => bb_X7_copyFrom_143 Z q.1 o' (some o) q.2) (fun j => (cpD (cpB G F ng j) o' o M, nI j)) 0 np (Nat.zero_le _) (fun j _ hj => ?_) ?_
  · show bb_X7_copyFrom_143 Z (cpD (cpB G F ng j) o' o M) o' (some o) (nI j) = _
    obtain ⟨X, hX⟩ : ∃ X, X = cpD (cpB G F ng j) o' o M := ⟨_, rfl⟩
    have LX : LC o X := by rw [hX]; exact L
    have LY : LC o' X := by rw [hX]; exact L'
    have j6 : j < 6 := by omega
    have c2 : mI X o' 5 = nI np := by rw [← hc, hX]; exact cpD_i (d := 0) (by omega) (.inl ⟨rfl, by omega⟩)
    have q1 : ¬ nI np ≤ nI j := fun z => by have := (nI_leI (by omega) (by omega)).mp z; omega
    have q2 : inb (nI j) 6 := (inbN (by omega)).mpr j6
    have key := s5_copy (M := X) (a := o' + (74 + 2 * j)) (b := o + (74 + 2 * j)) (by omega) (lTp LY j6) (lTp LX j6) ((lRp LY j6).trans (congrArg some (by omega))) ((lRp LX j6).trans (congrArg some (by omega))) ((show o' + (74 + 2 * j) + 1 = o' + (75 + 2 * j) by omega) ▸ lTpf LY j6) ((show o + (74 + 2 * j) + 1 = o + (75 + 2 * j) by omega) ▸ lTpf LX j6) ((show o' + (74 + 2 * j) + 1 = o' + (75 + 2 * j) by omega) ▸ lLpf LY j6) ((show o + (74 + 2 * j) + 1 = o + (75 + 2 * j) by omega) ▸ lLpf LX j6)
    have eS : cpS sP (o' + (74 + 2 * j)) (o + (74 + 2 * j)) X = cpD (cpB G F ng (j + 1)) o' o M := by
      rw [hX]
      refine cpD_S ho (by omega) (fun d k => or5_5 ?_)
      by_cases z0 : d = 74 + 2 * j
      · subst z0
        simp [sP] <;> omega
      · by_cases z1 : d = 74 + 2 * j + 1
        · subst z1
          simp [sP] <;> omega
        · have z2 : ¬ ((d = 74 + 2 * j ∨ d = 74 + 2 * j + 1) ∧ sP (d - (74 + 2 * j)) k = true) := fun z => by have := z.1; omega
          rw [or_iff_left z2]
          omega
    rw [eS] at key
    rw [← hX]
    unfold bb_X7_copyFrom_143
    rw [ck_t (lTo LY), c2, if_neg q1, dr_s (lR0_9 LY), ck_t (lT_4 LY), ck_t (show inb (nI j) (mL X (o' + 4)) by rw [lL_4 LY]; exact q2), dr_S, ck_t (lTo LX), dr_s (lR0_9 LX), ck_t (lT_4 LX), ck_t (show inb (nI j) (mL X (o + 4)) by rw [lL_4 LX]; exact q2), nI_clamp (by omega), dr_s (lRrp LY j6), ck_t (lTp LY j6), lRrp LX j6, bd_s key, nI_1]
  · show bb_X7_copyFrom_143 Z (cpD (cpB G F ng np) o' o M) o' (some o) (nI np) = _
    have c2 : mI (cpD (cpB G F ng np) o' o M) o' 5 = nI np := by rw [← hc]; exact cpD_i (d := 0) (by omega) (.inl ⟨rfl, by omega⟩)
    unfold bb_X7_copyFrom_143
    rw [ck_t (show mT (cpD (cpB G F ng np) o' o M) o' = 7 from lTo L'), c2, if_pos (nI_le (Nat.le_refl _) (by omega))]
    rw [dr_S, ck_t (show mT (cpD (cpB G F ng np) o' o M) o = 7 from lTo L), dr_s (show mR (cpD (cpB G F ng np) o' o M) o' 10 = some (o' + 5) from lR0_10 L'), ck_t (show mT (cpD (cpB G F ng np) o' o M) (o' + 5) = 8 from lT_5 L'), show mR (cpD (cpB G F ng np) o' o M) o 10 = some (o + 5) from lR0_10 L, bd_s nx]
    rfl
theorem s7_cp_o {Z : Nat → Nat} {o o' G F ng np : Nat} {M R : gMem} (L : LC o M) (L' : LC o' M) (ho : o + 86 ≤ o' ∨ o' + 86 ≤ o) (hb : ng ≤ 24) (hc : mI M o 4 = nI ng) (nx : lp_X7_copyFrom_143 Z (cpD (cpB G F ng 0) o' o M) o' (some o) (nI 0) = some ((), R)) : lp_X7_copyFrom_112 Z (cpD (cpB G F 0 0) o' o M) o' (some o) (nI 0) = some ((), R) := by
  unfold lp_X7_copyFrom_112
  refine lp_seq (f := fun (q : gMem × Int32) => bb_X7_copyFrom_112 Z q.1 o' (some o) q.2) (fun j => (cpD (cpB G F j 0) o' o M, nI j)) 0 ng (Nat.zero_le _) (fun j _ hj => ?_) ?_
  · show bb_X7_copyFrom_112 Z (cpD (cpB G F j 0) o' o M) o' (some o) (nI j) = _
    obtain ⟨X, hX⟩ : ∃ X, X = cpD (cpB G F j 0) o' o M := ⟨_, rfl⟩
    have LX : LC o X := by rw [hX]; exact L
    have LY : LC o' X := by rw [hX]; exact L'
    have j24 : j < 24 := by omega
    have c2 : mI X o' 4 = nI ng := by rw [← hc, hX]; exact cpD_i (d := 0) (by omega) (.inl ⟨rfl, by omega⟩)
    have q1 : ¬ nI ng ≤ nI j := fun z => by have := (nI_leI (by omega) (by omega)).mp z; omega
    have q2 : inb (nI j) 24 := (inbN (by omega)).mpr j24
    have key := s2_copy (M := X) (a := o' + (50 + j)) (b := o + (50 + j)) (.inr (.inr trivial)) (by omega) (lTgo LY j24) (lTgo LX j24)
    have eS : wL (o' + (50 + j)) (o + (50 + j)) [0, 1, 2, 3] X = cpD (cpB G F (j + 1) 0) o' o M := by
      rw [hX]
      refine cpD_L ho (by omega) (fun d k => or5_4 ?_)
      have z9 : k ∈ [0, 1, 2, 3] ↔ k < 4 := by simp; omega
      rw [z9]
      omega
    rw [eS] at key
    rw [← hX]
    unfold bb_X7_copyFrom_112
    rw [ck_t (lTo LY), c2, if_neg q1, dr_s (lR0_8 LY), ck_t (lT_3 LY), ck_t (show inb (nI j) (mL X (o' + 3)) by rw [lL_3 LY]; exact q2), dr_S, ck_t (lTo LX), dr_s (lR0_8 LX), ck_t (lT_3 LX), ck_t (show inb (nI j) (mL X (o + 3)) by rw [lL_3 LX]; exact q2), nI_clamp (by omega), dr_s (lRrgo LY j24), ck_t (lTgo LY j24), lRrgo LX j24, bd_s key, nI_1]
  · show bb_X7_copyFrom_112 Z (cpD (cpB G F ng 0) o' o M) o' (some o) (nI ng) = _
    have c2 : mI (cpD (cpB G F ng 0) o' o M) o' 4 = nI ng := by rw [← hc]; exact cpD_i (d := 0) (by omega) (.inl ⟨rfl, by omega⟩)
    unfold bb_X7_copyFrom_112
    rw [ck_t (show mT (cpD (cpB G F ng 0) o' o M) o' = 7 from lTo L'), c2, if_pos (nI_le (Nat.le_refl _) (by omega))]
    show oI (lp_X7_copyFrom_143 Z (cpD (cpB G F ng 0) o' o M) o' (some o) (nI 0)) = _
    rw [nx]
    rfl
theorem s7_cp_f {Z : Nat → Nat} {o o' G F ng np : Nat} {M R : gMem} (L : LC o M) (L' : LC o' M) (ho : o + 86 ≤ o' ∨ o' + 86 ≤ o) (hb : F ≤ 8) (hc : mI M o 3 = nI F) (h9 : ∀ f, f < F → mI M (o + (34 + 2 * f)) 9 = 0 ∨ mI M (o + (34 + 2 * f)) 9 = 1) (nx : lp_X7_copyFrom_112 Z (cpD (cpB G F 0 0) o' o M) o' (some o) (nI 0) = some ((), R)) : lp_X7_copyFrom_81 Z (cpD (cpB G 0 0 0) o' o M) o' (some o) (nI 0) = some ((), R) := by
  unfold lp_X7_copyFrom_81
  refine lp_seq (f := fun (q : gMem × Int32) => bb_X7_copyFrom_81 Z q.1 o' (some o) q.2) (fun j => (cpD (cpB G j 0 0) o' o M, nI j)) 0 F (Nat.zero_le _) (fun j _ hj => ?_) ?_
  · show bb_X7_copyFrom_81 Z (cpD (cpB G j 0 0) o' o M) o' (some o) (nI j) = _
    obtain ⟨X, hX⟩ : ∃ X, X = cpD (cpB G j 0 0) o' o M := ⟨_, rfl⟩
    have LX : LC o X := by rw [hX]; exact L
    have LY : LC o' X := by rw [hX]; exact L'
    have j8 : j < 8 := by omega
    have c2 : mI X o' 3 = nI F := by rw [← hc, hX]; exact cpD_i (d := 0) (by omega) (.inl ⟨rfl, by omega⟩)
    have q1 : ¬ nI F ≤ nI j := fun z => by have := (nI_leI (by omega) (by omega)).mp z; omega
    have q2 : inb (nI j) 8 := (inbN (by omega)).mpr j8
    have key := s1_copy (M := X) (a := o' + (34 + 2 * j)) (b := o + (34 + 2 * j)) (by omega) (lTf LY j8) (lTf LX j8) ((lRf LY j8).trans (congrArg some (by omega))) ((lRf LX j8).trans (congrArg some (by omega))) ((show o' + (34 + 2 * j) + 1 = o' + (35 + 2 * j) by omega) ▸ lTft LY j8) ((show o + (34 + 2 * j) + 1 = o + (35 + 2 * j) by omega) ▸ lTft LX j8) ((show o' + (34 + 2 * j) + 1 = o' + (35 + 2 * j) by omega) ▸ lLft LY j8) ((show o + (34 + 2 * j) + 1 = o + (35 + 2 * j) by omega) ▸ lLft LX j8) (by rw [hX, cpD_o (by omega)]; exact h9 j hj)
    have eS : cpS sF (o' + (34 + 2 * j)) (o + (34 + 2 * j)) X = cpD (cpB G (j + 1) 0 0) o' o M := by
      rw [hX]
      refine cpD_S ho (by omega) (fun d k => or5_3 ?_)
      by_cases z0 : d = 34 + 2 * j
      · subst z0
        simp [sF] <;> omega
      · by_cases z1 : d = 34 + 2 * j + 1
        · subst z1
          simp [sF] <;> omega
        · have z2 : ¬ ((d = 34 + 2 * j ∨ d = 34 + 2 * j + 1) ∧ sF (d - (34 + 2 * j)) k = true) := fun z => by have := z.1; omega
          rw [or_iff_left z2]
          omega
    rw [eS] at key
    rw [← hX]
    unfold bb_X7_copyFrom_81
    rw [ck_t (lTo LY), c2, if_neg q1, dr_s (lR0_7 LY), ck_t (lT_2 LY), ck_t (show inb (nI j) (mL X (o' + 2)) by rw [lL_2 LY]; exact q2), dr_S, ck_t (lTo LX), dr_s (lR0_7 LX), ck_t (lT_2 LX), ck_t (show inb (nI j) (mL X (o + 2)) by rw [lL_2 LX]; exact q2), nI_clamp (by omega), dr_s (lRrf LY j8), ck_t (lTf LY j8), lRrf LX j8, bd_s key, nI_1]
  · show bb_X7_copyFrom_81 Z (cpD (cpB G F 0 0) o' o M) o' (some o) (nI F) = _
    have c2 : mI (cpD (cpB G F 0 0) o' o M) o' 3 = nI F := by rw [← hc]; exact cpD_i (d := 0) (by omega) (.inl ⟨rfl, by omega⟩)
    unfold bb_X7_copyFrom_81
    rw [ck_t (show mT (cpD (cpB G F 0 0) o' o M) o' = 7 from lTo L'), c2, if_pos (nI_le (Nat.le_refl _) (by omega))]
    show oI (lp_X7_copyFrom_112 Z (cpD (cpB G F 0 0) o' o M) o' (some o) (nI 0)) = _
    rw [nx]
    rfl
theorem s7_cp_g {Z : Nat → Nat} {o o' G F ng np : Nat} {M R : gMem} (L : LC o M) (L' : LC o' M) (ho : o + 86 ≤ o' ∨ o' + 86 ≤ o) (hb : G ≤ 8) (hc : mI M o 2 = nI G) (nx : lp_X7_copyFrom_81 Z (cpD (cpB G 0 0 0) o' o M) o' (some o) (nI 0) = some ((), R)) : lp_X7_copyFrom_50 Z (cpD (cpB 0 0 0 0) o' o M) o' (some o) (nI 0) = some ((), R) := by
  unfold lp_X7_copyFrom_50
  refine lp_seq (f := fun (q : gMem × Int32) => bb_X7_copyFrom_50 Z q.1 o' (some o) q.2) (fun j => (cpD (cpB j 0 0 0) o' o M, nI j)) 0 G (Nat.zero_le _) (fun j _ hj => ?_) ?_
  · show bb_X7_copyFrom_50 Z (cpD (cpB j 0 0 0) o' o M) o' (some o) (nI j) = _
    obtain ⟨X, hX⟩ : ∃ X, X = cpD (cpB j 0 0 0) o' o M := ⟨_, rfl⟩
    have LX : LC o X := by rw [hX]; exact L
    have LY : LC o' X := by rw [hX]; exact L'
    have j8 : j < 8 := by omega
    have c2 : mI X o' 2 = nI G := by rw [← hc, hX]; exact cpD_i (d := 0) (by omega) (.inl ⟨rfl, by omega⟩)
    have q1 : ¬ nI G ≤ nI j := fun z => by have := (nI_leI (by omega) (by omega)).mp z; omega
    have q2 : inb (nI j) 8 := (inbN (by omega)).mpr j8
    have key := s3_copy (M := X) (a := o' + (18 + 2 * j)) (b := o + (18 + 2 * j)) (by omega) (lTg LY j8) (lTg LX j8) ((lRg LY j8).trans (congrArg some (by omega))) ((lRg LX j8).trans (congrArg some (by omega))) ((show o' + (18 + 2 * j) + 1 = o' + (19 + 2 * j) by omega) ▸ lTgf LY j8) ((show o + (18 + 2 * j) + 1 = o + (19 + 2 * j) by omega) ▸ lTgf LX j8) ((show o' + (18 + 2 * j) + 1 = o' + (19 + 2 * j) by omega) ▸ lLgf LY j8) ((show o + (18 + 2 * j) + 1 = o + (19 + 2 * j) by omega) ▸ lLgf LX j8)
    have eS : cpS sG (o' + (18 + 2 * j)) (o + (18 + 2 * j)) X = cpD (cpB (j + 1) 0 0 0) o' o M := by
      rw [hX]
      refine cpD_S ho (by omega) (fun d k => or5_2 ?_)
      by_cases z0 : d = 18 + 2 * j
      · subst z0
        simp [sG] <;> omega
      · by_cases z1 : d = 18 + 2 * j + 1
        · subst z1
          simp [sG] <;> omega
        · have z2 : ¬ ((d = 18 + 2 * j ∨ d = 18 + 2 * j + 1) ∧ sG (d - (18 + 2 * j)) k = true) := fun z => by have := z.1; omega
          rw [or_iff_left z2]
          omega
    rw [eS] at key
    rw [← hX]
    unfold bb_X7_copyFrom_50
    rw [ck_t (lTo LY), c2, if_neg q1, dr_s (lR0_6 LY), ck_t (lT_1 LY), ck_t (show inb (nI j) (mL X (o' + 1)) by rw [lL_1 LY]; exact q2), dr_S, ck_t (lTo LX), dr_s (lR0_6 LX), ck_t (lT_1 LX), ck_t (show inb (nI j) (mL X (o + 1)) by rw [lL_1 LX]; exact q2), nI_clamp (by omega), dr_s (lRrg LY j8), ck_t (lTg LY j8), lRrg LX j8, bd_s key, nI_1]
  · show bb_X7_copyFrom_50 Z (cpD (cpB G 0 0 0) o' o M) o' (some o) (nI G) = _
    have c2 : mI (cpD (cpB G 0 0 0) o' o M) o' 2 = nI G := by rw [← hc]; exact cpD_i (d := 0) (by omega) (.inl ⟨rfl, by omega⟩)
    unfold bb_X7_copyFrom_50
    rw [ck_t (show mT (cpD (cpB G 0 0 0) o' o M) o' = 7 from lTo L'), c2, if_pos (nI_le (Nat.le_refl _) (by omega))]
    show oI (lp_X7_copyFrom_81 Z (cpD (cpB G 0 0 0) o' o M) o' (some o) (nI 0)) = _
    rw [nx]
    rfl
theorem s7_copy {Z pg : Nat → Nat} {o o' G F ng np len : Nat} {M : gMem} (L : LC o M) (L' : LC o' M) (ho : o + 86 ≤ o' ∨ o' + 86 ≤ o) (hG : G ≤ 8) (hF : F ≤ 8) (hg : ng ≤ 24) (hp : np ≤ 6) (c2 : mI M o 2 = nI G) (c3 : mI M o 3 = nI F) (c4 : mI M o 4 = nI ng) (c5 : mI M o 5 = nI np) (h9 : ∀ f, f < F → mI M (o + (34 + 2 * f)) 9 = 0 ∨ mI M (o + (34 + 2 * f)) 9 = 1) (hZ : ∀ a b : Nat, a < 45 → b < 45 → Z a = Z b → a = b) (h5 : mI M (o + 5) 0 = nI len) (hlen : len ≤ 400) (hs : ∀ i, i < len → pg i < 45 ∧ mR M (o + 6) i = some (Z (pg i))) : f_X7_copyFrom Z M o' (some o) = some ((), cpV o' o len (cpD (cpB G F ng np) o' o M)) := by
  unfold f_X7_copyFrom b_X7_copyFrom_0
  rw [dr_S, ck_t (lTo L), ck_t (lTo L')]
  have e : wL o' o [0, 1, 2, 3, 4, 5] M = cpD (cpB 0 0 0 0) o' o M := by
    have z := cpD_L (P := fun _ _ => False) (P' := cpB 0 0 0 0) (l := [0, 1, 2, 3, 4, 5]) (e := 0) (M := M) ho (by omega) (fun d k => by
      have z9 : k ∈ [0, 1, 2, 3, 4, 5] ↔ k < 6 := by simp; omega
      rw [z9]
      show cpB 0 0 0 0 d k ↔ False ∨ (d = 0 ∧ k < 6)
      rw [false_or]
      unfold cpB
      omega)
    rw [cpD_F] at z
    exact z
  show lp_X7_copyFrom_50 Z (wL o' o [0, 1, 2, 3, 4, 5] M) o' (some o) (nI 0) = _
  rw [e]
  refine s7_cp_g (F := F) (ng := ng) (np := np) L L' ho hG c2 (s7_cp_f (ng := ng) (np := np) L L' ho hF c3 h9 (s7_cp_o (np := np) L L' ho hg c4 (s7_cp_p L L' ho hp c5 (s9_copy (X := cpD (cpB G F ng np) o' o M) L L' ho hZ ?_ hlen hs))))
  rw [cpD_o (by omega)]
  exact h5

