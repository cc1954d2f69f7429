/-! ## Pure: the class reads: its scan, a new reader -/
def l4 (x n : Nat) (M : gMem) : gMem := wR (nW M 21 n) x 0 (some (mN M))
def ls (r k n : Nat) (M : gMem) : gMem := wR (l4 (mN M) n (nW M 4 0)) r k (some (mN M))
def rdM (r : Nat) (x1 x2 : Option Nat) (M : gMem) : gMem := wR (wR (ls r 5 6 (ls r 4 8 (ls r 3 8 (wI M r 0 (-1))))) r 1 x1) r 2 x2
theorem X4_i {x n : Nat} {v : Int32} {M : gMem} (h : mT M x = 4 ∧ x < mN M) (hv : (v = (8 : Int32) ∧ n = 8) ∨ (v = (6 : Int32) ∧ n = 6)) : f_X4_init M x v = some ((), l4 x n M) := by
  have e : ∀ n, mT (nW M 21 n) x = 4 := fun n => (show (if x = mN M then 21 else mT M x) = 4 from by rw [if_neg (by omega)]; exact h.1)
  unfold f_X4_init b_X4_init_0 l4
  rcases hv with ⟨a, b⟩ | ⟨a, b⟩ <;> subst a <;> subst b
  · rw [show imax (8 : Int32) 0 = 8 from by decide, ck_t (by decide), ck_t (by decide), lw_S, ck_t (e _), lw_S]
    rfl
  · rw [show imax (6 : Int32) 0 = 6 from by decide, ck_t (by decide), ck_t (by decide), lw_S, ck_t (e _), lw_S]
    rfl
theorem ls_f {r k n : Nat} {M : gMem} : mN (ls r k n M) = mN M + 2 ∧ (∀ a, mT (ls r k n M) a = if a = mN M + 1 then 21 else if a = mN M then 4 else mT M a) ∧ (∀ a, mL (ls r k n M) a = if a = mN M + 1 then n else if a = mN M then 0 else mL M a) ∧ (∀ a j, mI (ls r k n M) a j = if a = mN M + 1 then 0 else if a = mN M then 0 else mI M a j) ∧ (∀ a, a < mN M → mJ (ls r k n M) a = mJ M a) ∧ ∀ a j, mR (ls r k n M) a j = if a = r ∧ j = k then some (mN M) else if a = mN M ∧ j = 0 then some (mN M + 1) else if a = mN M + 1 then none else if a = mN M then none else mR M a j := by
  refine ⟨rfl, fun a => rfl, fun a => rfl, fun a j => ?_, fun a ha => ?_, fun a j => ?_⟩
  · show (if a = mN M + 1 then (fun _ => (0 : Int32)) else if a = mN M then (fun _ => 0) else mI M a) j = _
    split
    · rfl
    · split <;> rfl
  · show (if a = mN M + 1 then (fun _ => (0 : Int64)) else if a = mN M then (fun _ => 0) else mJ M a) = _
    rw [if_neg (by omega), if_neg (by omega)]
  · show (if a = r ∧ j = k then some (mN M) else if a = mN M ∧ j = 0 then some (mN M + 1) else (if a = mN M + 1 then (fun _ => none) else if a = mN M then (fun _ => none) else mR M a) j) = _
    split
    · rfl
    · split
      · rfl
      · split
        · rfl
        · split <;> rfl
theorem ls_s {r k n : Nat} {v : Int32} {M : gMem} {K : gMem → Option (Unit × gMem)} (h : mT M r = 6 ∧ r < mN M) (hv : (v = (8 : Int32) ∧ n = 8) ∨ (v = (6 : Int32) ∧ n = 6)) : (lw (nW M 4 0) fun M4 => bd (f_X4_init M4 (mN M) v) fun _ M5 => ck (mT M5 r = 6) <| lw (wR M5 r k (some (mN M))) K) = K (ls r k n M) := by
  have h4 : mT (nW M 4 0) (mN M) = 4 ∧ mN M < mN (nW M 4 0) := ⟨(show (if mN M = mN M then 4 else mT M (mN M)) = 4 from if_pos rfl), Nat.lt_succ_self _⟩
  have e : mT (l4 (mN M) n (nW M 4 0)) r = 6 := (show (if r = mN M + 1 then 21 else if r = mN M then 4 else mT M r) = 6 from by rw [if_neg (by omega), if_neg (by omega)]; exact h.1)
  rw [lw_S, X4_i h4 hv, bd_S, ck_t e, lw_S]
  rfl
theorem ls_ok {r k n : Nat} {M : gMem} (h : mT M r = 6 ∧ r < mN M) : mT (ls r k n M) r = 6 ∧ r < mN (ls r k n M) := by
  refine ⟨?_, by rw [ls_f.1]; omega⟩
  rw [ls_f.2.1, if_neg (by omega), if_neg (by omega)]; exact h.1
theorem X6_i {r : Nat} {x1 x2 : Option Nat} {M : gMem} (h : mT M r = 6 ∧ r < mN M) : f_X6_init M r x1 x2 = some ((), rdM r x1 x2 M) := by
  have h0 : mT (wI M r 0 (-1)) r = 6 ∧ r < mN (wI M r 0 (-1)) := h
  unfold f_X6_init b_X6_init_0
  rw [ck_t h.1, lw_S, ls_s h0 (.inl ⟨rfl, rfl⟩), ls_s (ls_ok h0) (.inl ⟨rfl, rfl⟩), ls_s (ls_ok (ls_ok h0)) (.inr ⟨rfl, rfl⟩), lw_S, lw_S]
  rfl
/-- a new reader, fact by fact -/
theorem rd_f {r : Nat} {x1 x2 : Option Nat} {M : gMem} (hr : mN M = r + 1) : mN (rdM r x1 x2 M) = r + 7 ∧ (∀ a, a ≤ r → mT (rdM r x1 x2 M) a = mT M a ∧ mL (rdM r x1 x2 M) a = mL M a ∧ mJ (rdM r x1 x2 M) a = mJ M a ∧ (a < r → mI (rdM r x1 x2 M) a = mI M a ∧ mR (rdM r x1 x2 M) a = mR M a)) ∧ (∀ k, mI (rdM r x1 x2 M) r k = if k = 0 then -1 else mI M r k) ∧ (mR (rdM r x1 x2 M) r 1 = x1 ∧ mR (rdM r x1 x2 M) r 2 = x2 ∧ mR (rdM r x1 x2 M) r 3 = some (r + 1) ∧ mR (rdM r x1 x2 M) r 4 = some (r + 3) ∧ mR (rdM r x1 x2 M) r 5 = some (r + 5)) ∧ ∀ x, isX r x → mT (rdM r x1 x2 M) x = 4 ∧ mR (rdM r x1 x2 M) x 0 = some (x + 1) ∧ mT (rdM r x1 x2 M) (x + 1) = 21 ∧ mL (rdM r x1 x2 M) (x + 1) = cap r x ∧ mI (rdM r x1 x2 M) x 1 = 0 := by
  have e0 : mN (wI M r 0 (-1)) = r + 1 := hr
  obtain ⟨a1, a2, a3, a4, a5, a6⟩ := ls_f (r := r) (k := 3) (n := 8) (M := wI M r 0 (-1))
  obtain ⟨b1, b2, b3, b4, b5, b6⟩ := ls_f (r := r) (k := 4) (n := 8) (M := ls r 3 8 (wI M r 0 (-1)))
  obtain ⟨c1, c2, c3, c4, c5, c6⟩ := ls_f (r := r) (k := 5) (n := 6) (M := ls r 4 8 (ls r 3 8 (wI M r 0 (-1))))
  rw [e0] at a1 a2 a3 a4 a5 a6
  rw [a1] at b1 b2 b3 b4 b5 b6
  rw [b1] at c1 c2 c3 c4 c5 c6
  have dT : mT (rdM r x1 x2 M) = mT (ls r 5 6 (ls r 4 8 (ls r 3 8 (wI M r 0 (-1))))) := rfl
  have dL : mL (rdM r x1 x2 M) = mL (ls r 5 6 (ls r 4 8 (ls r 3 8 (wI M r 0 (-1))))) := rfl
  have dI : mI (rdM r x1 x2 M) = mI (ls r 5 6 (ls r 4 8 (ls r 3 8 (wI M r 0 (-1))))) := rfl
  have dJ : mJ (rdM r x1 x2 M) = mJ (ls r 5 6 (ls r 4 8 (ls r 3 8 (wI M r 0 (-1))))) := rfl
  have dR : ∀ a k, mR (rdM r x1 x2 M) a k = if a = r ∧ k = 2 then x2 else if a = r ∧ k = 1 then x1 else mR (ls r 5 6 (ls r 4 8 (ls r 3 8 (wI M r 0 (-1))))) a k := fun _ _ => rfl
  refine ⟨?_, fun a ha => ⟨?_, ?_, ?_, fun hr2 => ⟨?_, ?_⟩⟩, fun k => ?_, ⟨?_, ?_, ?_, ?_, ?_⟩, fun x hx => ⟨?_, ?_, ?_, ?_, ?_⟩⟩
  · show mN (ls r 5 6 (ls r 4 8 (ls r 3 8 (wI M r 0 (-1))))) = _
    rw [c1]
  · rw [dT, c2, if_neg (by omega), if_neg (by omega), b2, if_neg (by omega), if_neg (by omega), a2, if_neg (by omega), if_neg (by omega)]; rfl
  · rw [dL, c3, if_neg (by omega), if_neg (by omega), b3, if_neg (by omega), if_neg (by omega), a3, if_neg (by omega), if_neg (by omega)]; rfl
  · rw [dJ, c5 a (by omega), b5 a (by omega), a5 a (by omega)]; rfl
  · funext k
    rw [dI, c4, if_neg (by omega), if_neg (by omega), b4, if_neg (by omega), if_neg (by omega), a4, if_neg (by omega), if_neg (by omega), wI_o (.inl (by omega))]
  · funext k
    rw [dR, if_neg (by omega), if_neg (by omega), c6, if_neg (by omega), if_neg (by omega), if_neg (by omega), if_neg (by omega), b6, if_neg (by omega), if_neg (by omega), if_neg (by omega), if_neg (by omega), a6, if_neg (by omega), if_neg (by omega), if_neg (by omega), if_neg (by omega)]; rfl
  · rw [dI, c4, if_neg (by omega), if_neg (by omega), b4, if_neg (by omega), if_neg (by omega), a4, if_neg (by omega), if_neg (by omega)]
    by_cases z : k = 0
    · rw [z, wI_e]; rfl
    · rw [wI_o (.inr z), if_neg z]
  · rw [dR, if_neg (by omega), if_pos ⟨rfl, rfl⟩]
  · rw [dR, if_pos ⟨rfl, rfl⟩]
  · rw [dR, if_neg (by omega), if_neg (by omega), c6, if_neg (by omega), if_neg (by omega), if_neg (by omega), if_neg (by omega), b6, if_neg (by omega), if_neg (by omega), if_neg (by omega), if_neg (by omega), a6, if_pos ⟨rfl, rfl⟩]
  · rw [dR, if_neg (by omega), if_neg (by omega), c6, if_neg (by omega), if_neg (by omega), if_neg (by omega), if_neg (by omega), b6, if_pos ⟨rfl, rfl⟩]
  · rw [dR, if_neg (by omega), if_neg (by omega), c6, if_pos ⟨rfl, rfl⟩]
  · rcases hx with h | h | h <;> subst h
    · rw [dT, c2, if_neg (by omega), if_neg (by omega), b2, if_neg (by omega), if_neg (by omega), a2, if_neg (by omega), if_pos rfl]
    · rw [dT, c2, if_neg (by omega), if_neg (by omega), b2, if_neg (by omega), if_pos rfl]
    · rw [dT, c2, if_neg (by omega), if_pos rfl]
  · rcases hx with h | h | h <;> subst h
    · rw [dR, if_neg (by omega), if_neg (by omega), c6, if_neg (by omega), if_neg (by omega), if_neg (by omega), if_neg (by omega), b6, if_neg (by omega), if_neg (by omega), if_neg (by omega), if_neg (by omega), a6, if_neg (by omega), if_pos ⟨rfl, rfl⟩]
    · rw [dR, if_neg (by omega), if_neg (by omega), c6, if_neg (by omega), if_neg (by omega), if_neg (by omega), if_neg (by omega), b6, if_neg (by omega), if_pos ⟨rfl, rfl⟩]
    · rw [dR, if_neg (by omega), if_neg (by omega), c6, if_neg (by omega), if_pos ⟨rfl, rfl⟩]
  · rcases hx with h | h | h <;> subst h
    · rw [dT, c2, if_neg (by omega), if_neg (by omega), b2, if_neg (by omega), if_neg (by omega), a2, if_pos rfl]
    · rw [dT, c2, if_neg (by omega), if_neg (by omega), b2, if_pos rfl]
    · rw [dT, c2, if_pos rfl]
  · rcases hx with h | h | h <;> subst h <;> unfold cap
    · rw [if_neg (by omega), dL, c3, if_neg (by omega), if_neg (by omega), b3, if_neg (by omega), if_neg (by omega), a3, if_pos rfl]
    · rw [if_neg (by omega), dL, c3, if_neg (by omega), if_neg (by omega), b3, if_pos rfl]
    · rw [if_pos rfl, dL, c3, if_pos rfl]
  · rcases hx with h | h | h <;> subst h
    · rw [dI, c4, if_neg (by omega), if_neg (by omega), b4, if_neg (by omega), if_neg (by omega), a4, if_neg (by omega), if_pos rfl]
    · rw [dI, c4, if_neg (by omega), if_neg (by omega), b4, if_neg (by omega), if_pos rfl]
    · rw [dI, c4, if_neg (by omega), if_pos rfl]
/-- the class's world, ready to read -/
theorem C_world {Z : Nat → Nat} {p o n : Nat} {T : Nat → Nat} {M : gMem} (P : TP p n T M (mI M) (mR M)) (L : LC o M) (FR : FRS o M) (PS : ∀ q, q < 6 → ∃ c, c ≤ 8 ∧ mI M (o + (74 + 2 * q)) 3 = nI c) (hp : p + 5 ≤ o) (ho : o + 86 ≤ mN M) (hZ : ∀ a b : Nat, a < 45 → b < 45 → Z a = Z b → a = b) : ∃ S K, f_X10_scan Z M p = some ((), S) ∧ K ≤ 400 ∧ (∀ i, i < K → tok T n i < 42) ∧ 42 ≤ tok T n K ∧ mN S = mN M ∧ (mT S = mT M ∧ mL S = mL M) ∧ (∀ a k, a ≠ p + 3 → (a ≠ p ∨ k ≠ 5) → mI S a k = mI M a k) ∧ (∀ a, a ≠ p + 2 → mR S a = mR M a) ∧ (∀ a, a ≠ p + 4 → mJ S a = mJ M a) ∧ CWd Z (tok T n) (pos T n) (vsT T n) K (mN M) p o (rdM (mN M) (some p) (some o) (nW S 6 0)) ∧ CB (mN M) p o (rdM (mN M) (some p) (some o) (nW S 6 0)) ∧ CI (mN M) o (rdM (mN M) (some p) (some o) (nW S 6 0)) (fgM o (rdM (mN M) (some p) (some o) (nW S 6 0))) ∧ mI (rdM (mN M) (some p) (some o) (nW S 6 0)) (mN M) 6 = nI 0 ∧ mI (rdM (mN M) (some p) (some o) (nW S 6 0)) (mN M) 7 = 0 ∧ (∀ x, isX (mN M) x → mI (rdM (mN M) (some p) (some o) (nW S 6 0)) x 1 = 0) ∧ mI (rdM (mN M) (some p) (some o) (nW S 6 0)) (mN M) 0 = -1 := by
  obtain ⟨I', R', J', K, s1, s2, ⟨s3, s4, s5, s6⟩, s7, s8⟩ := c_scan (Z := Z) (J := mJ M) P hZ
  rw [gm_self] at s1
  obtain ⟨⟨p1, p2, p3, p4, p5, p6, p7, p8, p9⟩, ⟨q1, q2, q3, q4⟩, -⟩ := P
  generalize hS : gm M I' R' J' = S at s1
  have SN : mN S = mN M := by rw [← hS]; rfl
  have ST : mT S = mT M := by rw [← hS]; rfl
  have SL : mL S = mL M := by rw [← hS]; rfl
  have SI : mI S = I' := by rw [← hS]; rfl
  have SR' : mR S = R' := by rw [← hS]; rfl
  have SJ : mJ S = J' := by rw [← hS]; rfl
  have n0 : mN (nW S 6 0) = mN M + 1 := by rw [← SN]; rfl
  obtain ⟨f1, f2, f3, f4, f5⟩ := rd_f (r := mN M) (x1 := some p) (x2 := some o) n0
  have nT : ∀ a, mT (nW S 6 0) a = if a = mN M then 6 else mT M a := fun a => by rw [← SN, ← ST]; rfl
  have nL : ∀ a, a < mN M → mL (nW S 6 0) a = mL M a := fun a h => by
    show (if a = mN S then 0 else mL S a) = _
    rw [if_neg (by rw [SN]; omega), SL]
  have nI' : ∀ a, a < mN M → mI (nW S 6 0) a = I' a := fun a h => by
    show (if a = mN S then (fun _ => (0 : Int32)) else mI S a) = _
    rw [if_neg (by rw [SN]; omega), SI]
  have nI0 : ∀ k, mI (nW S 6 0) (mN M) k = 0 := fun k => by
    show (if mN M = mN S then (fun _ => (0 : Int32)) else mI S (mN M)) k = _
    rw [if_pos SN.symm]
  have nR : ∀ a, a < mN M → mR (nW S 6 0) a = R' a := fun a h => by
    show (if a = mN S then (fun _ => none) else mR S a) = _
    rw [if_neg (by rw [SN]; omega), SR']
  have nJ : ∀ a, a < mN M → mJ (nW S 6 0) a = J' a := fun a h => by
    show (if a = mN S then (fun _ => (0 : Int64)) else mJ S a) = _
    rw [if_neg (by rw [SN]; omega), SJ]
  generalize hF : rdM (mN M) (some p) (some o) (nW S 6 0) = F at *
  have fT : ∀ a, a < mN M → mT F a = mT M a := fun a h => by rw [(f2 a (by omega)).1, nT, if_neg (by omega)]
  have fL : ∀ a, a < mN M → mL F a = mL M a := fun a h => by rw [(f2 a (by omega)).2.1, nL a h]
  have fI : ∀ a, a < mN M → mI F a = I' a := fun a h => by rw [((f2 a (by omega)).2.2.2 h).1, nI' a h]
  have fR : ∀ a, a < mN M → mR F a = R' a := fun a h => by rw [((f2 a (by omega)).2.2.2 h).2, nR a h]
  have fJ : ∀ a, a < mN M → mJ F a = J' a := fun a h => by rw [(f2 a (by omega)).2.2.1, nJ a h]
  have fo : ∀ d k, d < 86 → mI F (o + d) k = mI M (o + d) k := fun d k h => by rw [fI _ (by omega), s4 _ _ (by omega) (by omega)]
  have LF : LC o F := fun d hd => by
    obtain ⟨a, b, c⟩ := L d hd
    exact ⟨by rw [fT _ (by omega)]; exact a, by rw [fL _ (by omega)]; exact b, fun h k => by rw [fR _ (by omega), s5 _ (by omega)]; exact c h k⟩
  have B : CB (mN M) p o F := by
    refine ⟨⟨?_, f4⟩, ⟨?_, ?_, ?_, ?_, ?_, ?_, ?_, ?_, ?_, ?_⟩, fun x hx => ?_, LF, hp, ho⟩
    · rw [(f2 (mN M) (Nat.le_refl _)).1, nT, if_pos rfl]
    · rw [fT _ (by omega)]; exact p1
    · rw [fR _ (by omega), s5 _ (by omega)]; exact q2
    · rw [fR _ (by omega), s5 _ (by omega)]; exact q3
    · rw [fR _ (by omega), s5 _ (by omega)]; exact q4
    · rw [fT _ (by omega)]; exact p4
    · rw [fL _ (by omega)]; exact p5
    · rw [fT _ (by omega)]; exact p6
    · rw [fL _ (by omega)]; exact p7
    · rw [fT _ (by omega)]; exact p8
    · rw [fL _ (by omega)]; exact p9
    · obtain ⟨a, b, c, d, -⟩ := f5 x hx
      exact ⟨a, b, c, d⟩
  have CTf : CT Z (tok T n) (pos T n) (vsT T n) K p F := fun i hi => by
    obtain ⟨a, b, c⟩ := s3 i (by omega)
    refine ⟨by rw [fR _ (by omega)]; exact b, by rw [fI _ (by omega)]; exact a, fun hg => ?_⟩
    rw [fJ _ (by omega)]
    have hiK : i < K := by
      by_cases z : i = K
      · rw [z] at hg; omega
      · omega
    refine c (by omega) _ ?_
    have h1 : vsT T n i = (tkJ T n (pos T n i)).getD 0 := if_pos hg
    rcases hg with h | h
    · obtain ⟨a1, a2, a3, a4, a5, a6, a7, a8⟩ := tok_40 h
      rw [a8]
      unfold tkJ
      rw [if_pos a1, if_pos a2]
    · obtain ⟨a1, a2, a3, a4, a5, a6, a7⟩ := tok_41 h
      rw [h1]
      unfold tkJ
      rw [if_pos a1]
      by_cases z : isL (T (pos T n i)) = true
      · rw [if_pos z]; rfl
      · rw [if_neg z]
        have d0 : isD (T (pos T n i)) = true := by
          unfold tok tkG at h
          rw [if_pos (.inl (by omega)), if_pos a1, if_neg z] at h
          by_cases y : isD (T (pos T n i)) = true
          · exact y
          · rw [if_neg y] at h
            exact absurd h symG_n.2
        rw [if_pos d0]; rfl
  have WF : CWd Z (tok T n) (pos T n) (vsT T n) K (mN M) p o F := by
    refine ⟨B, ?_, CTf, hZ, fun i => tok_45, s2, fun i hi hg => ?_⟩
    · obtain ⟨a1, a2, a3, a4, a5, a6⟩ := FR
      exact ⟨fun k hk => by rw [fo 12 k (by omega)]; exact a1 k hk, fun k h1 h2 => by rw [fo 13 k (by omega)]; exact a2 k h1 h2, fun k hk => by rw [fo 14 k (by omega)]; exact a3 k hk, fun k hk => by rw [fo 15 k (by omega)]; exact a4 k hk, fun k hk => by rw [fo 16 k (by omega)]; exact a5 k hk, fun k hk => by rw [fo 17 k (by omega)]; exact a6 k hk⟩
    · by_cases z : i = K
      · rw [z] at hg; omega
      · omega
  have gI : ∀ a k, (a < o ∨ o + 6 ≤ a) → mI (fgM o F) a k = mI F a k := fun a k h => by
    unfold fgM
    rw [wI_o (.inl (by omega)), wI_o (.inl (by omega)), wI_o (.inl (by omega)), wI_o (.inl (by omega)), wI_o (.inl (by omega))]
  have g2 : mI (fgM o F) o 2 = 0 ∧ mI (fgM o F) o 3 = 0 ∧ mI (fgM o F) o 4 = 0 ∧ mI (fgM o F) o 5 = 0 ∧ mI (fgM o F) (o + 5) 0 = 0 := by
    unfold fgM
    refine ⟨?_, ?_, ?_, ?_, wI_e _ _ _ _⟩
    · rw [wI_o (.inl (by omega)), wI_o (.inr (by decide)), wI_o (.inr (by decide)), wI_o (.inr (by decide)), wI_e]
    · rw [wI_o (.inl (by omega)), wI_o (.inr (by decide)), wI_o (.inr (by decide)), wI_e]
    · rw [wI_o (.inl (by omega)), wI_o (.inr (by decide)), wI_e]
    · rw [wI_o (.inl (by omega)), wI_e]
  refine ⟨S, K, s1, s2, s7, s8, SN, ⟨ST, SL⟩, fun a k h1 h2 => by rw [SI]; exact s4 a k h1 h2, fun a h => by rw [SR']; exact s5 a h, fun a h => by rw [SJ]; exact s6 a h, ?_⟩
  rw [hF]
  refine ⟨WF, B, ⟨⟨rfl, rfl, rfl⟩, fun _ _ => rfl, fun a ha => ?_, fun _ _ => rfl, ?_⟩, ?_, ?_, fun x hx => (f5 x hx).2.2.2.2, ?_⟩
  · funext k
    unfold rg at ha
    exact gI a k (by omega)
  · refine ⟨fun x hx => ⟨0, Nat.zero_le _, ?_⟩, ⟨0, by omega, g2.1⟩, ⟨0, by omega, g2.2.1⟩, ⟨0, by omega, g2.2.2.1⟩, ⟨0, by omega, g2.2.2.2.1⟩, ⟨0, by omega, g2.2.2.2.2⟩, fun q hq => ?_⟩
    · rw [gI x 1 (by rcases hx with h | h | h <;> omega)]; exact (f5 x hx).2.2.2.2
    · obtain ⟨c, c1, c2⟩ := PS q hq
      exact ⟨c, c1, by rw [gI _ _ (by omega), fo _ _ (by omega)]; exact c2⟩
  · rw [f3, if_neg (by decide), nI0]; rfl
  · rw [f3, if_neg (by decide), nI0]
  · rw [f3, if_pos rfl]

