/-! ## Pure: a haul lands, a fisher sails -/
theorem up2_up1c {α : Type} {sg : Nat → Nat → α} {d e k : Nat} {r : Nat → α} {v : α} (h : d ≠ e) : up2 (up1 sg e r) d k v = up1 (up2 sg d k v) e r := by
  funext b j
  by_cases h1 : b = d
  · subst h1
    by_cases h2 : j = k
    · subst h2; rw [up2_eq, up1_o h, up2_eq]
    · rw [up2_ne (.inr h2), up1_o h, up1_o h, up2_ne (.inr h2)]
  · rw [up2_ne (.inl h1)]
    by_cases h3 : b = e
    · subst h3; rw [up1_e, up1_e]
    · rw [up1_o h3, up1_o h3, up2_ne (.inl h1)]
theorem up2_up2s {α : Type} (sg : Nat → Nat → α) (d k : Nat) (v w : α) : up2 (up2 sg d k v) d k w = up2 sg d k w := by
  funext b j
  by_cases h : b = d ∧ j = k
  · simp [up2, h]
  · simp only [up2, if_neg h]
theorem up1_self {α : Type} (sg : Nat → α) (d : Nat) : up1 sg d (sg d) = sg := by
  funext b
  by_cases hb : b = d
  · subst hb; exact up1_e _ _ _
  · exact up1_o hb
theorem up2_self {α : Type} (sg : Nat → Nat → α) (d k : Nat) : up2 sg d k (sg d k) = sg := by
  funext b j
  by_cases h : b = d ∧ j = k
  · obtain ⟨rfl, rfl⟩ := h; exact up2_eq _ _ _ _
  · unfold up2; rw [if_neg h]
/-- of the sizes up to n those that the mesh m keeps: how many, their weight -/
def kpN (hh : Nat → Nat) (m : Nat) : Nat → Nat
  | 0 => 0
  | n + 1 => kpN hh m n + (if m ≤ n + 1 then hh (n + 1) else 0)
def wgN (hh : Nat → Nat) (m : Nat) : Nat → Nat
  | 0 => 0
  | n + 1 => wgN hh m n + (if m ≤ n + 1 then hh (n + 1) * (n + 1) else 0)
def fsN (r : Nat → Int32) (hh : Nat → Nat) (m n : Nat) : Nat → Int32 := fun s => if m ≤ s ∧ 1 ≤ s ∧ s ≤ n then r s - nI (hh s) else r s
def lhN (sg : Nat → Nat → Int32) (g f : Nat) (hh : Nat → Nat) (m n : Nat) : Nat → Nat → Int32 := up1 (up2 sg (34 + 2 * f) 5 (sg (34 + 2 * f) 5 + nI (wgN hh m n))) (19 + 2 * g) (fsN (sg (19 + 2 * g)) hh m n)
theorem fsN_0 (r : Nat → Int32) (hh : Nat → Nat) (m : Nat) : fsN r hh m 0 = r := by
  funext s; exact if_neg (by omega)
theorem fsN_n {r : Nat → Int32} {hh : Nat → Nat} {m n : Nat} (h : ¬ m ≤ n + 1) : fsN r hh m (n + 1) = fsN r hh m n := by
  funext s
  unfold fsN
  by_cases c : m ≤ s ∧ 1 ≤ s ∧ s ≤ n
  · rw [if_pos c, if_pos (by omega)]
  · rw [if_neg c, if_neg (by omega)]
theorem fsN_s {r : Nat → Int32} {hh : Nat → Nat} {m n : Nat} (h : m ≤ n + 1) : up1 (fsN r hh m n) (n + 1) (fsN r hh m n (n + 1) - nI (hh (n + 1))) = fsN r hh m (n + 1) := by
  funext s
  have q : ¬ (m ≤ n + 1 ∧ 1 ≤ n + 1 ∧ n + 1 ≤ n) := by omega
  have q2 : m ≤ n + 1 ∧ 1 ≤ n + 1 ∧ n + 1 ≤ n + 1 := by omega
  by_cases hs : s = n + 1
  · subst hs
    rw [up1_e]
    simp only [fsN, if_neg q, if_pos q2]
  · rw [up1_o hs]
    unfold fsN
    by_cases c : m ≤ s ∧ 1 ≤ s ∧ s ≤ n
    · rw [if_pos c, if_pos (by omega)]
    · rw [if_neg c, if_neg (by omega)]
def ldA (sg : Nat → Nat → Int32) (g f : Nat) (hh : Nat → Nat) (m : Nat) : Nat → Nat → Int32 := up2 (up2 (lhN sg g f hh m 5) (34 + 2 * f) 8 (sg (34 + 2 * f) 8 + nI (kpN hh m 5))) (18 + 2 * g) 2 (sg (18 + 2 * g) 2 + nI (kpN hh m 5))
theorem s7_lhStep {M : gMem} {o g f m n : Nat} {hh : Nat → Nat} {sg : Nat → Nat → Int32} (L : LC o M) (hg : g < 8) (hf : f < 8) (em : sg (34 + 2 * f) 1 = nI m) (hm : m < 100) (hn : n < 5) (eh : sg 11 (n + 1) = nI (hh (n + 1))) : bb_X7_landHaul_5 (sC o (lhN sg g f hh m n) M) o (some (o + (18 + 2 * g))) (some (o + (34 + 2 * f))) (nI (kpN hh m n)) (nI (n + 1)) = some (.inl (sC o (lhN sg g f hh m (n + 1)) M, nI (kpN hh m (n + 1)), nI (n + 2))) := by
  have q1 : ¬ 5 < n + 1 := by omega
  have q6 : n + 1 < 6 := by omega
  have o1 : 34 + 2 * f ≠ 19 + 2 * g := by omega
  have o2 : 11 ≠ 19 + 2 * g := by omega
  have o3 : 11 ≠ 34 + 2 * f := by omega
  have e1 : lhN sg g f hh m n (34 + 2 * f) 1 = nI m := by
    unfold lhN; rw [up1_o o1, up2_ne (.inr (by omega)), em]
  have e2 : lhN sg g f hh m n 11 (n + 1) = nI (hh (n + 1)) := by
    unfold lhN; rw [up1_o o2, up2_ne (.inl o3), eh]
  have e3 : lhN sg g f hh m n (34 + 2 * f) 5 = sg (34 + 2 * f) 5 + nI (wgN hh m n) := by
    unfold lhN; rw [up1_o o1, up2_eq]
  have e4 : lhN sg g f hh m n (19 + 2 * g) = fsN (sg (19 + 2 * g)) hh m n := by
    unfold lhN; rw [up1_e]
  by_cases c : n + 1 < m
  · have h1 : lhN sg g f hh m (n + 1) = lhN sg g f hh m n := by
      unfold lhN
      rw [fsN_n (by omega)]
      simp only [wgN]
      rw [if_neg (by omega), Nat.add_zero]
    have h2 : kpN hh m (n + 1) = kpN hh m n := by
      simp only [kpN]
      rw [if_neg (by omega), Nat.add_zero]
    rw [h1, h2]
    simp (disch := first | assumption | omega) [bb_X7_landHaul_5, b_X7_landHaul_66, lit, nI_leI, nI_ltI, ck_T, ck_t, dr_S, lw_S, bd_S, oI_S, inbN, nI_clamp, nI_add, sC_I0, sC_I, sC_W0, sC_W, q1, cTf, e1, c]
  · have c' : m ≤ n + 1 := by omega
    have h2 : kpN hh m (n + 1) = kpN hh m n + hh (n + 1) := by
      simp only [kpN]
      rw [if_pos c']
    have h3 : wgN hh m (n + 1) = wgN hh m n + hh (n + 1) * (n + 1) := by
      simp only [wgN]
      rw [if_pos c']
    have h1 : up2 (up2 (lhN sg g f hh m n) (34 + 2 * f) 5 (sg (34 + 2 * f) 5 + nI (wgN hh m n) + nI (hh (n + 1) * (n + 1)))) (19 + 2 * g) (n + 1) (fsN (sg (19 + 2 * g)) hh m n (n + 1) - nI (hh (n + 1))) = lhN sg g f hh m (n + 1) := by
      unfold lhN
      rw [up2_up1c o1, up2_up1s, up2_up2s, fsN_s c', h3, Int32.add_assoc, nI_add]
    rw [h2, ← h1]
    simp (disch := first | assumption | omega) [bb_X7_landHaul_5, b_X7_landHaul_66, lit, nI_leI, nI_ltI, ck_T, ck_t, dr_S, lw_S, bd_S, oI_S, inbN, nI_clamp, nI_add, sC_I0, sC_I, sC_W0, sC_W, nI_mul, q1, q6, cT0, cR0_13, cT11, cL11, cTf, cTg, cRg, cTgf, cLgf, e1, e2, e3, e4, c, up2_ne]
theorem s7_landHaul {M : gMem} {o g f m : Nat} {hh : Nat → Nat} {sg : Nat → Nat → Int32} (L : LC o M) (hg : g < 8) (hf : f < 8) (em : sg (34 + 2 * f) 1 = nI m) (hm : m < 100) (eh : ∀ s, 1 ≤ s → s ≤ 5 → sg 11 s = nI (hh s)) : f_X7_landHaul (sC o sg M) o (some (o + (18 + 2 * g))) (some (o + (34 + 2 * f))) = some (nI (kpN hh m 5), sC o (ldA sg g f hh m) M) := by
  have e0 : lhN sg g f hh m 0 = sg := by
    unfold lhN
    rw [fsN_0]
    have : sg (34 + 2 * f) 5 + nI (wgN hh m 0) = sg (34 + 2 * f) 5 := Int32.add_zero _
    have o1 : (19 + 2 * g) ≠ (34 + 2 * f) := by omega
    rw [this, up2_self, up1_self]
  unfold f_X7_landHaul b_X7_landHaul_0 lp_X7_landHaul_5
  have := lp_seq (f := fun (q : gMem × Int32 × Int32) => bb_X7_landHaul_5 q.1 o (some (o + (18 + 2 * g))) (some (o + (34 + 2 * f))) q.2.1 q.2.2) (fun n => (sC o (lhN sg g f hh m n) M, nI (kpN hh m n), nI (n + 1))) 0 5 (b := (nI (kpN hh m 5), sC o (ldA sg g f hh m) M)) (by omega) (fun n _ hn => s7_lhStep L hg hf em hm hn (eh (n + 1) (by omega) (by omega))) ?_
  · rw [e0] at this
    exact this
  · have o1 : 34 + 2 * f ≠ 19 + 2 * g := by omega
    have o2 : 18 + 2 * g ≠ 19 + 2 * g := by omega
    have o3 : 18 + 2 * g ≠ 34 + 2 * f := by omega
    have e1 : lhN sg g f hh m 5 (34 + 2 * f) 8 = sg (34 + 2 * f) 8 := by
      unfold lhN; rw [up1_o o1, up2_ne (.inr (by omega))]
    have e2 : ∀ v, up2 (lhN sg g f hh m 5) (34 + 2 * f) 8 v (18 + 2 * g) 2 = sg (18 + 2 * g) 2 := by
      intro v
      rw [up2_ne (.inl o3)]
      unfold lhN; rw [up1_o o2, up2_ne (.inl o3)]
    show bb_X7_landHaul_5 (sC o (lhN sg g f hh m 5) M) o (some (o + (18 + 2 * g))) (some (o + (34 + 2 * f))) (nI (kpN hh m 5)) (nI 6) = _
    simp (disch := first | assumption | omega) [bb_X7_landHaul_5, lit, nI_leI, nI_ltI, ck_T, ck_t, dr_S, lw_S, bd_S, oI_S, inbN, nI_clamp, nI_add, sC_I0, sC_I, sC_W0, sC_W, cTf, cTg, e1, e2, ldA]
/-- the ints of a Shore, those aside that are of use for a moment alone (8 the stack, 9 the lots, 10 the row, 11 the haul) -/
def nz (sg : Nat → Nat → Int32) : Nat → Nat → Int32 := fun d k => if 8 ≤ d ∧ d ≤ 11 then 0 else sg d k
theorem nz_e {sg : Nat → Nat → Int32} {d : Nat} (h : d < 8 ∨ 11 < d) : nz sg d = sg d := by
  funext k; exact if_neg (by omega)
theorem nz_t {sg : Nat → Nat → Int32} {d : Nat} (h : 8 ≤ d ∧ d ≤ 11) : nz sg d = fun _ => 0 := by
  funext k; exact if_pos h
theorem nz_nz (sg : Nat → Nat → Int32) : nz (nz sg) = nz sg := by
  funext d k
  unfold nz
  split <;> rfl
theorem nz_up2 {sg : Nat → Nat → Int32} {d k : Nat} {v : Int32} (h : d < 8 ∨ 11 < d) : nz (up2 sg d k v) = up2 (nz sg) d k v := by
  funext b j
  by_cases c : 8 ≤ b ∧ b ≤ 11
  · have : b ≠ d := by omega
    rw [nz_t c, up2_ne (.inl this), nz_t c]
  · by_cases e : b = d ∧ j = k
    · obtain ⟨rfl, rfl⟩ := e
      rw [nz_e h, up2_eq, up2_eq]
    · have e' : b ≠ d ∨ j ≠ k := by
        by_cases q : b = d
        · exact .inr fun z => e ⟨q, z⟩
        · exact .inl q
      rw [nz_e (by omega), up2_ne e', up2_ne e', nz_e (by omega)]
theorem nz_up1 {sg : Nat → Nat → Int32} {d : Nat} {r : Nat → Int32} (h : d < 8 ∨ 11 < d) : nz (up1 sg d r) = up1 (nz sg) d r := by
  funext b
  by_cases e : b = d
  · subst e
    rw [nz_e h, up1_e, up1_e]
  · rw [up1_o e]
    by_cases c : 8 ≤ b ∧ b ≤ 11
    · rw [nz_t c, nz_t c]
    · rw [nz_e (by omega), nz_e (by omega), up1_o e]
theorem nz_up1t {sg : Nat → Nat → Int32} {d : Nat} {r : Nat → Int32} (h : 8 ≤ d ∧ d ≤ 11) : nz (up1 sg d r) = nz sg := by
  funext b
  by_cases c : 8 ≤ b ∧ b ≤ 11
  · rw [nz_t c, nz_t c]
  · rw [nz_e (by omega), nz_e (by omega), up1_o (by omega)]
theorem nz_up2t {sg : Nat → Nat → Int32} {d k : Nat} {v : Int32} (h : 8 ≤ d ∧ d ≤ 11) : nz (up2 sg d k v) = nz sg := by
  rw [up2_up1, nz_up1t h]
theorem eqZ_nz (sg : Nat → Nat → Int32) : eqZ sg (nz sg) := fun d hd => nz_e hd
theorem nz_of {sg sg' : Nat → Nat → Int32} (h : eqZ sg sg') : nz sg' = nz sg := by
  funext d k
  by_cases c : 8 ≤ d ∧ d ≤ 11
  · rw [nz_t c, nz_t c]
  · rw [nz_e (by omega), nz_e (by omega), h d (by omega)]
theorem eqZ_of {sg sg' : Nat → Nat → Int32} (h : nz sg' = nz sg) : eqZ sg sg' := fun d hd =>
  (nz_e (sg := sg') hd).symm.trans ((congrFun h d).trans (nz_e (sg := sg) hd))
/-- the fisher f is at home -/
def homeA (A : Nat → Nat → Int32) (f : Nat) : Nat → Nat → Int32 := up2 (up2 A (34 + 2 * f) 6 (-1)) (34 + 2 * f) 5 0
/-- the fisher f is at the ground g -/
def thereA (A : Nat → Nat → Int32) (f g : Nat) : Nat → Nat → Int32 := up2 (up2 (up2 A (34 + 2 * f) 6 (nI g)) (34 + 2 * f) 5 0) (18 + 2 * g) 1 (A (18 + 2 * g) 1 + nI 1)
def tornA (A : Nat → Nat → Int32) (f g : Nat) : Nat → Nat → Int32 := if (hlA A g f).2.2.2 = 0 then thereA A f g else tearA (thereA A f g) f
def sailA (A : Nat → Nat → Int32) (f g : Nat) : Nat → Nat → Int32 :=
  up2 (ldA (tornA A f g) g f (hlA A g f).1 (tornA A f g (34 + 2 * f) 1).toNatClampNeg) (35 + 2 * f) g (A (35 + 2 * f) g + nI (kpN (hlA A g f).1 (tornA A f g (34 + 2 * f) 1).toNatClampNeg 5))
theorem s7_home {M : gMem} {o f : Nat} {sg : Nat → Nat → Int32} (L : LC o M) (hf : f < 8) : f_X7_sail (sC o sg M) o (nI f) (-1) = some ((), sC o (homeA sg f) M) := by
  have q : (-1 : Int32) < 0 := by decide
  have q1 : inb (nI f) 8 := (inbN (by omega)).mpr hf
  unfold f_X7_sail b_X7_sail_0 b_X7_sail_67
  rw [ck_t (cT0 L), dr_s (cR0_7 L), ck_t (cT2 L), cL2 L, ck_t q1, nI_clamp (by omega), dr_s (cRrf L hf), ck_t (cTf L hf)]
  simp only [lw_S]
  rw [sC_W (by omega), sC_W (by omega), if_pos q]
  rfl
theorem hlA_there {A : Nat → Nat → Int32} {f g : Nat} (hf : f < 8) (hg : g < 8) : hlA (thereA A f g) g f = hlA A g f := by
  have o1 : 19 + 2 * g ≠ 34 + 2 * f := by omega
  have o2 : 34 + 2 * f ≠ 18 + 2 * g := by omega
  have o3 : 19 + 2 * g ≠ 18 + 2 * g := by omega
  have e : ∀ k, k ≠ 6 → k ≠ 5 → thereA A f g (34 + 2 * f) k = A (34 + 2 * f) k := by
    intro k h1 h2
    unfold thereA
    rw [up2_ne (.inl o2), up2_ne (.inr h2), up2_ne (.inr h1)]
  have e2 : thereA A f g (19 + 2 * g) = A (19 + 2 * g) := by
    funext k
    unfold thereA
    rw [up2_ne (.inl o3), up2_ne (.inl o1), up2_ne (.inl o1)]
  unfold hlA
  rw [e 1 (by omega) (by omega), e 2 (by omega) (by omega), e 3 (by omega) (by omega), e2]
theorem hlA_congr {A A' : Nat → Nat → Int32} {f g : Nat} (h : eqZ A A') (hf : f < 8) (hg : g < 8) : hlA A' g f = hlA A g f := by
  unfold hlA
  rw [h (34 + 2 * f) (by omega), h (19 + 2 * g) (by omega)]
theorem imin6 {m : Nat} (h : m ≤ 6) : imin (nI m + nI 1) (nI 6) = nI (min (m + 1) 6) := by
  rw [nI_add, imin_nI (by omega) (by omega)]
theorem s7_sail {M : gMem} {o f g : Nat} {sg : Nat → Nat → Int32} (L : LC o M) (hf : f < 8) (hg : g < 8) (G : okG sg g) (F : okF sg f) : ∃ sg', f_X7_sail (sC o sg M) o (nI f) (nI g) = some ((), sC o sg' M) ∧ nz sg' = sailA (nz sg) f g ∧ sg' 9 = sg 9 := by
  have q : ¬ nI g < 0 := nI_pos (by omega)
  have q1 : inb (nI f) 8 := (inbN (by omega)).mpr hf
  have q2 : inb (nI g) 8 := (inbN (by omega)).mpr hg
  have o1 : 19 + 2 * g ≠ 34 + 2 * f := by omega
  have o2 : 34 + 2 * f ≠ 18 + 2 * g := by omega
  have o3 : 19 + 2 * g ≠ 18 + 2 * g := by omega
  have o4 : 34 + 2 * f ≠ 11 := by omega
  have o5 : 35 + 2 * f ≠ 18 + 2 * g := by omega
  have o6 : 35 + 2 * f ≠ 34 + 2 * f := by omega
  have o7 : 35 + 2 * f ≠ 19 + 2 * g := by omega
  have hT : thereA sg f g = up2 (up2 (up2 sg (34 + 2 * f) 6 (nI g)) (34 + 2 * f) 5 0) (18 + 2 * g) 1 (up2 (up2 sg (34 + 2 * f) 6 (nI g)) (34 + 2 * f) 5 0 (18 + 2 * g) 1 + (1 : Int32)) := by
    unfold thereA
    rw [up2_ne (.inl (Ne.symm o2)), up2_ne (.inl (Ne.symm o2))]
    rfl
  have eT : ∀ k, k ≠ 6 → k ≠ 5 → thereA sg f g (34 + 2 * f) k = sg (34 + 2 * f) k := by
    intro k h1 h2
    unfold thereA
    rw [up2_ne (.inl o2), up2_ne (.inr h2), up2_ne (.inr h1)]
  have eG : thereA sg f g (19 + 2 * g) = sg (19 + 2 * g) := by
    funext k
    unfold thereA
    rw [up2_ne (.inl o3), up2_ne (.inl o1), up2_ne (.inl o1)]
  have G' : okG (thereA sg f g) g := fun s h1 h2 => by rw [eG]; exact G s h1 h2
  have F' : okF (thereA sg f g) f := by
    unfold okF
    rw [eT 1 (by omega) (by omega), eT 2 (by omega) (by omega), eT 3 (by omega) (by omega)]
    exact F
  obtain ⟨r, hr, hH⟩ := s7_haulFrom (M := M) L hg hf G' F'
  rw [hlA_there hf hg] at hr hH
  obtain ⟨⟨m, hm1, hm, em⟩, -, -⟩ := F
  obtain ⟨S1, hS1⟩ : ∃ S1, S1 = (if (hlA sg g f).2.2.2 = 0 then up1 (thereA sg f g) 11 r else tearA (up1 (thereA sg f g) 11 r) f) := ⟨_, rfl⟩
  rw [← hS1] at hH
  have hz : nz S1 = nz (tornA sg f g) := by
    rw [hS1]
    unfold tornA
    by_cases c : (hlA sg g f).2.2.2 = 0
    · rw [if_pos c, if_pos c, nz_up1t (by omega)]
    · rw [if_neg c, if_neg c]
      unfold tearA
      rw [up1_o o4, nz_up2 (by omega), nz_up2 (by omega), nz_up1t (by omega), nz_up2 (by omega), nz_up2 (by omega)]
  have hE := eqZ_of hz
  have e11 : ∀ s, 1 ≤ s → s ≤ 5 → S1 11 s = nI ((hlA sg g f).1 s) := by
    intro s h1 h2
    rw [hS1]
    by_cases c : (hlA sg g f).2.2.2 = 0
    · rw [if_pos c, up1_e, hr s h1 h2]
    · rw [if_neg c]
      unfold tearA
      rw [up2_ne (.inl (Ne.symm o4)), up2_ne (.inl (Ne.symm o4)), up1_e, hr s h1 h2]
  obtain ⟨m', hm', em'⟩ : ∃ m', m' < 100 ∧ tornA sg f g (34 + 2 * f) 1 = nI m' := by
    unfold tornA
    by_cases c : (hlA sg g f).2.2.2 = 0
    · rw [if_pos c]
      exact ⟨m, by omega, by rw [eT 1 (by omega) (by omega), em]⟩
    · rw [if_neg c]
      unfold tearA
      refine ⟨min (m + 1) 6, by omega, ?_⟩
      rw [up2_ne (.inr (by omega)), up2_eq, eT 1 (by omega) (by omega), em, imin6 hm]
  have eS : ∀ d k, (d < 8 ∨ 11 < d) → S1 d k = tornA sg f g d k := by
    intro d k hd
    rw [hE d hd]
  have hL := s7_landHaul (M := M) (hh := (hlA sg g f).1) (sg := S1) L hg hf (show S1 (34 + 2 * f) 1 = nI m' by rw [eS (34 + 2 * f) 1 (by omega), em']) hm' e11
  have nzT : tornA (nz sg) f g = nz (tornA sg f g) := by
    unfold tornA
    rw [hlA_congr (eqZ_nz sg) hf hg]
    have e1 : thereA (nz sg) f g = nz (thereA sg f g) := by
      unfold thereA
      rw [nz_up2 (by omega), nz_up2 (by omega), nz_up2 (by omega), nz_e (by omega)]
    by_cases c : (hlA sg g f).2.2.2 = 0
    · rw [if_pos c, if_pos c, e1]
    · rw [if_neg c, if_neg c, e1]
      unfold tearA
      rw [nz_up2 (by omega), nz_up2 (by omega), nz_e (by omega)]
  have t5 : tornA sg f g (35 + 2 * f) g = sg (35 + 2 * f) g := by
    unfold tornA
    have t6 : thereA sg f g (35 + 2 * f) g = sg (35 + 2 * f) g := by
      unfold thereA
      rw [up2_ne (.inl o5), up2_ne (.inl o6), up2_ne (.inl o6)]
    by_cases c : (hlA sg g f).2.2.2 = 0
    · rw [if_pos c, t6]
    · rw [if_neg c]
      unfold tearA
      rw [up2_ne (.inl o6), up2_ne (.inl o6), t6]
  have t7 : ldA S1 g f (hlA sg g f).1 m' (35 + 2 * f) g = sg (35 + 2 * f) g := by
    unfold ldA lhN
    rw [up2_ne (.inl o5), up2_ne (.inl o6), up1_o o7, up2_ne (.inl o6), eS _ _ (by omega), t5]
  refine ⟨up2 (ldA S1 g f (hlA sg g f).1 m') (35 + 2 * f) g (sg (35 + 2 * f) g + nI (kpN (hlA sg g f).1 m' 5)), ?_, ?_, ?_⟩
  · have hr1 : mR (sC o (up2 (up2 sg (34 + 2 * f) 6 (nI g)) (34 + 2 * f) 5 0) M) (o + 1) (nI g).toNatClampNeg = some (o + (18 + 2 * g)) := by rw [nI_clamp (by omega)]; exact cRrg L hg
    unfold f_X7_sail b_X7_sail_0 b_X7_sail_67
    rw [ck_t (cT0 L), dr_s (cR0_7 L), ck_t (cT2 L), cL2 L, ck_t q1, nI_clamp (n := f) (by omega), dr_s (cRrf L hf), ck_t (cTf L hf)]
    simp only [lw_S]
    rw [sC_W (by omega), sC_W (by omega), if_neg q, dr_s (cR0_6 L), ck_t (cT1 L), cL1 L, ck_t q2, hr1, dr_S, ck_t (cTg L hg), sC_I (by omega), sC_W (by omega), cRrf L hf, ← hT, hH, bd_S, ck_t (cT0 L), hL, bd_S, ck_t (cTf L hf), dr_s (cRf L hf), ck_t (cTft L hf), cLft L hf, ck_t q2, ck_t q2, nI_clamp (n := g) (by omega), sC_I (by omega), sC_W (by omega), t7]
  · unfold sailA
    rw [hlA_congr (eqZ_nz sg) hf hg, nzT, nz_e (show 34 + 2 * f < 8 ∨ 11 < 34 + 2 * f by omega), em', nI_clamp (show m' < 2 ^ 31 by omega), nz_up2 (by omega), nz_e (show 35 + 2 * f < 8 ∨ 11 < 35 + 2 * f by omega)]
    congr 1
    unfold ldA lhN
    rw [nz_up2 (by omega), nz_up2 (by omega), nz_up1 (by omega), nz_up2 (by omega), hz, nz_e (show 34 + 2 * f < 8 ∨ 11 < 34 + 2 * f by omega), nz_e (show 18 + 2 * g < 8 ∨ 11 < 18 + 2 * g by omega), nz_e (show 19 + 2 * g < 8 ∨ 11 < 19 + 2 * g by omega), hE (34 + 2 * f) (by omega), hE (18 + 2 * g) (by omega), hE (19 + 2 * g) (by omega)]
  · have n1 : ∀ k, thereA sg f g 9 k = sg 9 k := fun k => by
      unfold thereA
      rw [up2_ne (.inl (by omega)), up2_ne (.inl (by omega)), up2_ne (.inl (by omega))]
    have n2 : ∀ k, S1 9 k = sg 9 k := fun k => by
      rw [hS1]
      by_cases c : (hlA sg g f).2.2.2 = 0
      · rw [if_pos c, up1_o (by omega), n1]
      · rw [if_neg c]
        unfold tearA
        rw [up2_ne (.inl (by omega)), up2_ne (.inl (by omega)), up1_o (by omega), n1]
    funext k
    unfold ldA lhN
    rw [up2_ne (.inl (by omega)), up2_ne (.inl (by omega)), up2_ne (.inl (by omega)), up1_o (by omega), up2_ne (.inl (by omega)), n2]

