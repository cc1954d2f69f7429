/-! ## Pure: pacts split, catches are stored -/
/-- the fisher at place i of the pact p -/
def memA (A : Nat → Nat → Int32) (p i : Nat) : Nat := (A (75 + 2 * p) i).toNatClampNeg
/-- what comes to the catch of f -/
def add5 (A : Nat → Nat → Int32) (f : Nat) (v : Int32) : Nat → Nat → Int32 := up2 A (34 + 2 * f) 5 (A (34 + 2 * f) 5 + v)
theorem add5_o {A : Nat → Nat → Int32} {f d k : Nat} {v : Int32} (h : d ≠ 34 + 2 * f ∨ k ≠ 5) : add5 A f v d k = A d k := up2_ne h
theorem add5_e (A : Nat → Nat → Int32) (f : Nat) (v : Int32) : add5 A f v (34 + 2 * f) 5 = A (34 + 2 * f) 5 + v := up2_eq _ _ _ _
theorem add5_a (A : Nat → Nat → Int32) (f : Nat) (v w : Int32) : add5 (add5 A f v) f w = add5 A f (v + w) := by
  unfold add5
  rw [up2_eq, up2_up2s, Int32.add_assoc]
theorem add5_c (A : Nat → Nat → Int32) (f g : Nat) (v w : Int32) : add5 (add5 A f v) g w = add5 (add5 A g w) f v := by
  by_cases h : f = g
  · subst h
    rw [add5_a, add5_a, Int32.add_comm]
  · funext d k
    have hn : 34 + 2 * f ≠ 34 + 2 * g := by omega
    by_cases h1 : d = 34 + 2 * f ∧ k = 5
    · obtain ⟨rfl, rfl⟩ := h1
      rw [add5_o (.inl hn), add5_e, add5_e, add5_o (.inl hn)]
    · have h1' : d ≠ 34 + 2 * f ∨ k ≠ 5 := by omega
      by_cases h2 : d = 34 + 2 * g ∧ k = 5
      · obtain ⟨rfl, rfl⟩ := h2
        rw [add5_e, add5_o h1', add5_o h1', add5_e]
      · have h2' : d ≠ 34 + 2 * g ∨ k ≠ 5 := by omega
        rw [add5_o h2', add5_o h1', add5_o h1', add5_o h2']
theorem nz_add5 {A : Nat → Nat → Int32} {f : Nat} {v : Int32} : nz (add5 A f v) = add5 (nz A) f v := by
  unfold add5
  rw [nz_up2 (by omega), nz_e (show 34 + 2 * f < 8 ∨ 11 < 34 + 2 * f by omega)]
/-- what a fisher shows -/
def shwA (A : Nat → Nat → Int32) (f : Nat) : Int32 := if A (34 + 2 * f) 9 = 0 then A (34 + 2 * f) 5 else A (34 + 2 * f) 5 / 2
def sp1 (p i : Nat) (q : (Nat → Nat → Int32) × Int32 × Int32) : (Nat → Nat → Int32) × Int32 × Int32 :=
  (up2 q.1 (34 + 2 * memA q.1 p i) 5 (q.1 (34 + 2 * memA q.1 p i) 5 - shwA q.1 (memA q.1 p i)), q.2.1 + shwA q.1 (memA q.1 p i), q.2.2 + (q.1 (34 + 2 * memA q.1 p i) 5 - shwA q.1 (memA q.1 p i)))
/-- the first n members have shown: what is left, what was shown, what was hidden -/
def spN (A : Nat → Nat → Int32) (p : Nat) : Nat → (Nat → Nat → Int32) × Int32 × Int32
  | 0 => (A, 0, 0)
  | n + 1 => sp1 p n (spN A p n)
/-- each of the first n members gets v -/
def shN (A : Nat → Nat → Int32) (p : Nat) (v : Int32) : Nat → Nat → Nat → Int32
  | 0 => A
  | n + 1 => add5 (shN A p v n) (memA (shN A p v n) p n) v
/-- the members of the pact p are fishers -/
def okP (A : Nat → Nat → Int32) (p n : Nat) : Prop := ∀ i, i < n → ∃ f, f < 8 ∧ A (75 + 2 * p) i = nI f
theorem spN_o {A : Nat → Nat → Int32} {p d k : Nat} : ∀ n, (∀ f, f < 8 → d ≠ 34 + 2 * f ∨ k ≠ 5) → okP A p n → (spN A p n).1 d k = A d k
  | 0, _, _ => rfl
  | n + 1, h, hp => by
    have h0 := spN_o n h (fun i hi => hp i (by omega))
    obtain ⟨f, hf, ef⟩ := hp n (by omega)
    have h1 : (spN A p n).1 (75 + 2 * p) n = A (75 + 2 * p) n := spN_o n (fun f hf => by omega) (fun i hi => hp i (by omega))
    have h2 : memA (spN A p n).1 p n = f := by unfold memA; rw [h1, ef, nI_clamp (by omega)]
    show up2 (spN A p n).1 (34 + 2 * memA (spN A p n).1 p n) 5 _ d k = _
    rw [h2, up2_ne (h f hf), h0]
theorem shN_o {A : Nat → Nat → Int32} {p d k : Nat} {v : Int32} : ∀ n, (∀ f, f < 8 → d ≠ 34 + 2 * f ∨ k ≠ 5) → okP A p n → shN A p v n d k = A d k
  | 0, _, _ => rfl
  | n + 1, h, hp => by
    have h0 := shN_o (v := v) n h (fun i hi => hp i (by omega))
    obtain ⟨f, hf, ef⟩ := hp n (by omega)
    have h1 : shN A p v n (75 + 2 * p) n = A (75 + 2 * p) n := shN_o n (fun f hf => by omega) (fun i hi => hp i (by omega))
    have h2 : memA (shN A p v n) p n = f := by unfold memA; rw [h1, ef, nI_clamp (by omega)]
    show add5 (shN A p v n) (memA (shN A p v n) p n) v d k = _
    rw [h2, add5_o (h f hf), h0]
/-- a pact of n members splits -/
def splA (A : Nat → Nat → Int32) (p n : Nat) : Nat → Nat → Int32 :=
  up2 (up2 (up2 (add5 (shN (spN A p n).1 p ((spN A p n).2.1 / nI n) n) (memA A p 0) ((spN A p n).2.1 - (spN A p n).2.1 / nI n * nI n)) (74 + 2 * p) 5 (A (74 + 2 * p) 5 + (spN A p n).2.1)) (74 + 2 * p) 6 (A (74 + 2 * p) 6 + (spN A p n).2.2)) (74 + 2 * p) 7 (A (74 + 2 * p) 7 + (if (spN A p n).2.2 ≤ 0 then 0 else 1))
theorem sp_nz {A : Nat → Nat → Int32} {p : Nat} : ∀ n, okP A p n → (nz (spN A p n).1 = (spN (nz A) p n).1) ∧ (spN (nz A) p n).2 = (spN A p n).2
  | 0, _ => ⟨rfl, rfl⟩
  | n + 1, hp => by
    obtain ⟨h1, h2⟩ := sp_nz (A := A) (p := p) n (fun i hi => hp i (by omega))
    have e1 : memA (spN (nz A) p n).1 p n = memA (spN A p n).1 p n := by
      unfold memA; rw [← h1, nz_e (by omega)]
    have e3 : (spN (nz A) p n).1 (34 + 2 * memA (spN A p n).1 p n) = (spN A p n).1 (34 + 2 * memA (spN A p n).1 p n) := by rw [← h1, nz_e (by omega)]
    have e2 : shwA (spN (nz A) p n).1 (memA (spN A p n).1 p n) = shwA (spN A p n).1 (memA (spN A p n).1 p n) := by
      unfold shwA; rw [e3]
    constructor
    · show nz (sp1 p n (spN A p n)).1 = (sp1 p n (spN (nz A) p n)).1
      unfold sp1
      simp only
      rw [nz_up2 (by omega), e1, e2, e3, h1]
    · show (sp1 p n (spN (nz A) p n)).2 = (sp1 p n (spN A p n)).2
      unfold sp1
      simp only
      rw [e1, e2, e3, h2]
theorem sh_nz {A : Nat → Nat → Int32} {p : Nat} {v : Int32} : ∀ n, nz (shN A p v n) = shN (nz A) p v n
  | 0 => rfl
  | n + 1 => by
    have h := sh_nz (A := A) (p := p) (v := v) n
    have e1 : memA (shN (nz A) p v n) p n = memA (shN A p v n) p n := by
      unfold memA; rw [← h, nz_e (by omega)]
    show nz (add5 (shN A p v n) (memA (shN A p v n) p n) v) = add5 (shN (nz A) p v n) (memA (shN (nz A) p v n) p n) v
    rw [nz_add5, e1, h]
theorem spl_nz {A : Nat → Nat → Int32} {p n : Nat} (hp : okP A p n) : nz (splA A p n) = splA (nz A) p n := by
  obtain ⟨h1, h2⟩ := sp_nz n hp
  unfold splA
  rw [nz_up2 (by omega), nz_up2 (by omega), nz_up2 (by omega), nz_add5, sh_nz, h1, h2, nz_e (show 74 + 2 * p < 8 ∨ 11 < 74 + 2 * p by omega)]
  have : memA (nz A) p 0 = memA A p 0 := by unfold memA; rw [nz_e (by omega)]
  rw [this]
theorem s7_spl1 {M : gMem} {o p n i f : Nat} {x y : Int32} {sg : Nat → Nat → Int32} (L : LC o M) (hp : p < 6) (hn : n ≤ 8) (en : sg (74 + 2 * p) 3 = nI n) (hi : i < n) (hf : f < 8) (ef : sg (75 + 2 * p) i = nI f) : bb_X7_split_23 (sC o sg M) o (some (o + (74 + 2 * p))) x y (nI i) = some (.inl (sC o (sp1 p i (sg, x, y)).1 M, (sp1 p i (sg, x, y)).2.1, (sp1 p i (sg, x, y)).2.2, nI (i + 1))) := by
  have q1 : ¬ nI n ≤ nI i := fun q => by have := (nI_leI (by omega) (by omega)).mp q; omega
  have q2 : inb (nI i) 8 := (inbN (by omega)).mpr (by omega)
  have q3 : inb (nI f) 8 := (inbN (by omega)).mpr (by omega)
  have em : memA sg p i = f := by unfold memA; rw [ef, nI_clamp (by omega)]
  have hr : mR (sC o sg M) (o + 2) (nI f).toNatClampNeg = some (o + (34 + 2 * f)) := by rw [nI_clamp (by omega)]; exact cRrf L hf
  unfold bb_X7_split_23 b_X7_split_69 sp1
  simp only
  rw [dr_S, ck_t (cTp L hp), sC_I (by omega), en, if_neg q1, ck_t (cT0 L), dr_s (cRp L hp), ck_t (cTpf L hp), cLpf L hp, ck_t q2, dr_s (cR0_7 L), ck_t (cT2 L), cL2 L, nI_clamp (n := i) (by omega), sC_I (by omega), ef, ck_t q3, dr_s hr, ck_t (cTf L hf), sC_I (by omega), em]
  unfold shwA
  by_cases c : sg (34 + 2 * f) 9 = 0
  · rw [if_pos c, if_pos c, dr_s hr, ck_t (cTf L hf), sC_I (by omega), sC_W (by omega)]
    simp only [lw_S]
    rw [sC_I (by omega), up2_eq]
    all_goals ((try simp only [lw_S, nI_1]); (try rfl))
  · rw [if_neg c, if_neg c, dr_s hr, ck_t (cTf L hf), sC_I (by omega), sC_W (by omega)]
    simp only [lw_S]
    rw [sC_I (by omega), up2_eq]
    all_goals ((try simp only [lw_S, nI_1]); (try rfl))
theorem s7_spl2 {M : gMem} {o p n i f : Nat} {x y v : Int32} {sg : Nat → Nat → Int32} (L : LC o M) (hp : p < 6) (hn : n ≤ 8) (en : sg (74 + 2 * p) 3 = nI n) (hi : i < n) (hf : f < 8) (ef : sg (75 + 2 * p) i = nI f) : bb_X7_split_113 (sC o sg M) o (some (o + (74 + 2 * p))) x y v (nI i) = some (.inl (sC o (add5 sg (memA sg p i) v) M, nI (i + 1))) := by
  have q1 : ¬ nI n ≤ nI i := fun q => by have := (nI_leI (by omega) (by omega)).mp q; omega
  have q2 : inb (nI i) 8 := (inbN (by omega)).mpr (by omega)
  have q3 : inb (nI f) 8 := (inbN (by omega)).mpr (by omega)
  have em : memA sg p i = f := by unfold memA; rw [ef, nI_clamp (by omega)]
  have hr : mR (sC o sg M) (o + 2) (nI f).toNatClampNeg = some (o + (34 + 2 * f)) := by rw [nI_clamp (by omega)]; exact cRrf L hf
  unfold bb_X7_split_113 add5
  rw [dr_S, ck_t (cTp L hp), sC_I (by omega), en, if_neg q1, ck_t (cT0 L), dr_s (cRp L hp), ck_t (cTpf L hp), cLpf L hp, ck_t q2, dr_s (cR0_7 L), ck_t (cT2 L), cL2 L, nI_clamp (n := i) (by omega), sC_I (by omega), ef, ck_t q3, dr_s hr, ck_t (cTf L hf), sC_I (by omega), em, sC_W (by omega)]
  all_goals ((try simp only [lw_S, nI_1]); (try rfl))
theorem s7_split {M : gMem} {o p n : Nat} {sg : Nat → Nat → Int32} (L : LC o M) (hp : p < 6) (hn1 : 1 ≤ n) (hn : n ≤ 8) (en : sg (74 + 2 * p) 3 = nI n) (hP : okP sg p n) (hs : ¬ 0 ≤ sg (74 + 2 * p) 0) : f_X7_split (sC o sg M) o (some (o + (74 + 2 * p))) = some ((), sC o (splA sg p n) M) := by
  have on : ∀ (f : Nat), f < 8 → (74 + 2 * p) ≠ 34 + 2 * f ∨ (3 : Nat) ≠ 5 := fun f _ => by omega
  have om : ∀ (i f : Nat), f < 8 → (75 + 2 * p) ≠ 34 + 2 * f ∨ i ≠ 5 := fun i f _ => by omega
  obtain ⟨f0, hf0, ef0⟩ := hP 0 (by omega)
  have e1n : ∀ i, i ≤ n → okP sg p i := fun i hi j hj => hP j (by omega)
  have hP2 : okP (spN sg p n).1 p n := fun i hi => by
    obtain ⟨f, hf, ef⟩ := hP i hi
    exact ⟨f, hf, by rw [spN_o n (om i) hP, ef]⟩
  have n1 : ¬ (1 : Int32) = 0 := by decide
  have q1 : (1 : Int32) ≤ nI n := nI_le (a := 1) hn1 (by omega)
  have q0 : ¬ nI n = 0 := nI_ne0 (by omega) (by omega)
  obtain ⟨v, hv⟩ : ∃ v, v = (spN sg p n).2.1 / nI n := ⟨_, rfl⟩
  have k2 : lp_X7_split_113 (sC o (spN sg p n).1 M) o (some (o + (74 + 2 * p))) (spN sg p n).2.1 (spN sg p n).2.2 v (nI 0) = some ((), sC o (splA sg p n) M) := by
    unfold lp_X7_split_113
    refine lp_seq (fun j => (sC o (shN (spN sg p n).1 p v j) M, nI j)) 0 n (by omega) (fun j _ hj => ?_) ?_
    · obtain ⟨f, hf, ef⟩ := hP2 j hj
      exact s7_spl2 L hp hn (by rw [shN_o j (fun f hf => by omega) (fun i hi => hP2 i (by omega)), spN_o n (fun f hf => by omega) hP, en]) hj hf (by rw [shN_o j (fun f hf => by omega) (fun i hi => hP2 i (by omega)), ef])
    · have s3 : ∀ k, k ≠ 5 ∨ True → shN (spN sg p n).1 p v n (74 + 2 * p) k = sg (74 + 2 * p) k := fun k _ => by rw [shN_o n (fun f hf => by omega) hP2, spN_o n (fun f hf => by omega) hP]
      have s0 : shN (spN sg p n).1 p v n (75 + 2 * p) 0 = nI f0 := by rw [shN_o n (fun f hf => by omega) hP2, spN_o n (fun f hf => by omega) hP, ef0]
      have q2 : inb (0 : Int32) 8 := by decide
      have q3 : inb (nI f0) 8 := (inbN (by omega)).mpr (by omega)
      have z0 : (0 : Int32).toNatClampNeg = 0 := rfl
      have qn : nI n ≤ nI n := nI_le (Nat.le_refl _) (by omega)
      have em : memA sg p 0 = f0 := by unfold memA; rw [ef0, nI_clamp (by omega)]
      have o1 : 74 + 2 * p ≠ 34 + 2 * f0 := by omega
      show bb_X7_split_113 (sC o (shN (spN sg p n).1 p v n) M) o (some (o + (74 + 2 * p))) (spN sg p n).2.1 (spN sg p n).2.2 v (nI n) = _
      have hr : mR (sC o (shN (spN sg p n).1 p v n) M) (o + 2) (nI f0).toNatClampNeg = some (o + (34 + 2 * f0)) := by rw [nI_clamp (by omega)]; exact cRrf L hf0
      unfold splA
      rw [em, ← hv]
      unfold bb_X7_split_113 b_X7_split_212 add5
      rw [dr_S, ck_t (cTp L hp), sC_I (by omega), s3 3 (.inr trivial), en, if_pos qn, ck_t (cT0 L), dr_s (cRp L hp), ck_t (cTpf L hp), cLpf L hp, ck_t q2, dr_s (cR0_7 L), ck_t (cT2 L), cL2 L, z0, sC_I (by omega), s0, ck_t q3, dr_s hr, ck_t (cTf L hf0), sC_I (by omega), sC_W (by omega)]
      simp only [lw_S]
      rw [sC_I (by omega), up2_ne (.inl o1), s3 5 (.inr trivial), sC_W (by omega), sC_I (by omega), up2_ne (.inr (by omega)), up2_ne (.inl o1), s3 6 (.inr trivial), sC_W (by omega), sC_I (by omega), up2_ne (.inr (by omega)), up2_ne (.inr (by omega)), up2_ne (.inl o1), s3 7 (.inr trivial)]
      by_cases c : (spN sg p n).2.2 ≤ 0
      · rw [if_pos c, if_pos c, dr_S, ck_t (cTp L hp), sC_W (by omega)]
        all_goals ((try simp only [lw_S, nI_1]); (try rfl))
      · rw [if_neg c, if_neg c, dr_S, ck_t (cTp L hp), sC_W (by omega)]
        all_goals ((try simp only [lw_S, nI_1]); (try rfl))
  unfold f_X7_split b_X7_split_0 f_X5_splits b_X5_splits_0 b_X5_splits_12
  rw [dr_S, ck_t (cTp L hp), ck_t (cTp L hp), sC_I (by omega), if_neg hs, ck_t (.inr rfl), bd_S, if_neg n1, ck_t (cTp L hp), sC_I (by omega), en, if_pos q1]
  unfold lp_X7_split_23
  refine lp_seq (fun j => (sC o (spN sg p j).1 M, (spN sg p j).2.1, (spN sg p j).2.2, nI j)) 0 n (by omega) (fun j _ hj => ?_) ?_
  · obtain ⟨f, hf, ef⟩ := hP j hj
    exact s7_spl1 L hp hn (by rw [spN_o j (fun f hf => by omega) (e1n j (by omega)), en]) hj hf (by rw [spN_o j (fun f hf => by omega) (e1n j (by omega)), ef])
  · have qn : nI n ≤ nI n := nI_le (Nat.le_refl _) (by omega)
    show bb_X7_split_23 (sC o (spN sg p n).1 M) o (some (o + (74 + 2 * p))) (spN sg p n).2.1 (spN sg p n).2.2 (nI n) = _
    unfold bb_X7_split_23
    rw [dr_S, ck_t (cTp L hp), sC_I (by omega), spN_o n (fun f hf => by omega) hP, en, if_pos qn, ck_t q0, ← hv]
    rw [show ((0 : Int32)) = nI 0 from rfl, k2]
    all_goals ((try simp only [lw_S, nI_1]); (try rfl))
theorem s7_split0 {M : gMem} {o p : Nat} {sg : Nat → Nat → Int32} (L : LC o M) (hp : p < 6) (hs : 0 ≤ sg (74 + 2 * p) 0) : f_X7_split (sC o sg M) o (some (o + (74 + 2 * p))) = some ((), sC o sg M) := by
  unfold f_X7_split b_X7_split_0 f_X5_splits b_X5_splits_0 b_X5_splits_12 b_X7_split_15
  rw [dr_S, ck_t (cTp L hp), ck_t (cTp L hp), sC_I (by omega), if_pos hs, ck_t (.inl rfl), bd_S, if_pos rfl]
/-- what was caught comes into the first n stores -/
def stA (A : Nat → Nat → Int32) : Nat → Nat → Nat → Int32
  | 0 => A
  | n + 1 => up2 (stA A n) (34 + 2 * n) 4 (A (34 + 2 * n) 4 + A (34 + 2 * n) 5)
theorem stA_o {A : Nat → Nat → Int32} {d k : Nat} : ∀ n, (∀ f, f < n → d ≠ 34 + 2 * f ∨ k ≠ 4) → stA A n d k = A d k
  | 0, _ => rfl
  | n + 1, h => by rw [stA, up2_ne (h n (by omega)), stA_o n (fun f hf => h f (by omega))]
theorem st_nz {A : Nat → Nat → Int32} : ∀ n, nz (stA A n) = stA (nz A) n
  | 0 => rfl
  | n + 1 => by rw [stA, stA, nz_up2 (by omega), st_nz n, nz_e (show 34 + 2 * n < 8 ∨ 11 < 34 + 2 * n by omega)]
theorem s7_storeCatches {M : gMem} {o n : Nat} {sg : Nat → Nat → Int32} (L : LC o M) (h : sg 0 3 = nI n) (hn : n ≤ 8) : f_X7_storeCatches (sC o sg M) o = some (sumN (fun i => sg (34 + 2 * i) 5) n, sC o (stA sg n) M) := by
  unfold f_X7_storeCatches b_X7_storeCatches_0 lp_X7_storeCatches_4
  refine lp_seq (fun j => (sC o (stA sg j) M, sumN (fun i => sg (34 + 2 * i) 5) j, nI j)) 0 n (by omega) (fun j _ hj => ?_) ?_
  · have q1 : ¬ nI n ≤ nI j := fun q => by have := (nI_leI (by omega) (by omega)).mp q; omega
    have q2 : inb (nI j) 8 := (inbN (by omega)).mpr (by omega)
    have e0 : stA sg j 0 3 = nI n := by rw [stA_o j (fun f hf => by omega), h]
    have e4 : stA sg j (34 + 2 * j) 4 = sg (34 + 2 * j) 4 := stA_o j (fun f hf => by omega)
    have e5 : stA sg j (34 + 2 * j) 5 = sg (34 + 2 * j) 5 := stA_o j (fun f hf => by omega)
    show bb_X7_storeCatches_4 (sC o (stA sg j) M) o (sumN (fun i => sg (34 + 2 * i) 5) j) (nI j) = _
    simp (disch := first | assumption | omega) [bb_X7_storeCatches_4, lit, nI_leI, nI_ltI, ck_T, ck_t, dr_S, lw_S, bd_S, oI_S, inbN, nI_clamp, nI_add, sC_I0, sC_I, sC_W0, sC_W, e0, q1, cT0, cR0_7, cT2, cL2, cRrf, cTf, e4, e5, up2_ne, stA, sumN, Nat.not_le.mpr hj]
  · have qn : nI n ≤ nI n := nI_le (Nat.le_refl _) (by omega)
    have e0 : stA sg n 0 3 = nI n := by rw [stA_o n (fun f hf => by omega), h]
    show bb_X7_storeCatches_4 (sC o (stA sg n) M) o (sumN (fun i => sg (34 + 2 * i) 5) n) (nI n) = _
    unfold bb_X7_storeCatches_4
    rw [ck_t (cT0 L), sC_I0, e0, if_pos qn]
    all_goals ((try simp only [lw_S, nI_1]); (try rfl))

