/-! ## Pure: what an event does to the class's memory -/
def lsn (M : gMem) (o f : Nat) : Nat := cn M o f - 1
def hsP (M : gMem) (o i : Nat) (v : Int32) : Prop := hasN (mI M (o + (75 + 2 * i))) (cn M (o + (74 + 2 * i)) 3) v
noncomputable def stp1 (Z : Nat → Nat) (r p o c i : Nat) (M : gMem) : gMem :=
  if c = 16 ∨ c = 17 ∨ c = 4 ∨ c = 19 then adM Z o c (mI (kwM r p (r + 3) i M) r 8) (kwM r p (r + 3) i M)
  else if c = 2 ∨ c = 18 then adM Z o c (mI (kwM r p (r + 1) i M) r 8) (kwM r p (r + 1) i M)
  else if c = 41 then adM Z o c (mI (nbM r p 0 999999 i M) r 8) (nbM r p 0 999999 i M)
  else if c = 15 ∨ c = 44 ∨ c = 23 ∨ c = 24 then adM Z o c (mI M r 8) M
  else if c < 45 then adM Z o c 0 M
  else if c = 51 then ngM o (nwM r p (r + 1) i M)
  else if c = 52 then nfM o (nwM r p (r + 3) i M)
  else if c = 53 then npM o (nwM r p (r + 5) i M)
  else if c = 54 then noM o (if cn M o 4 < 24 then M else ntM r p 4 i M)
  else if c = 55 then wI (nbM r p 1 8 i M) (o + (18 + 2 * lsn M o 2)) 0 (mI (nbM r p 1 8 i M) r 8)
  else if c = 57 then wI (wI (nbM r p 1 5 i M) (o + (34 + 2 * lsn M o 3)) 0 (mI (nbM r p 1 5 i M) r 8)) (o + (34 + 2 * lsn M o 3)) 1 (mI (nbM r p 1 5 i M) r 8)
  else if c = 58 then wI (nbM r p 1 99 i M) (o + (34 + 2 * lsn M o 3)) 2 (mI (nbM r p 1 99 i M) r 8)
  else if c = 59 then wI (nbM r p 1 40 i M) (o + (34 + 2 * lsn M o 3)) 3 (mI (nbM r p 1 40 i M) r 8)
  else if c = 60 then wI (kwM r p (r + 3) i M) (o + (50 + lsn M o 4)) 0 (mI (kwM r p (r + 3) i M) r 8)
  else if c = 61 then wI (wI (kwM r p (r + 1) i M) (o + (50 + lsn M o 4)) 1 (mI (kwM r p (r + 1) i M) r 8)) (o + (50 + lsn M o 4)) 2 (mI M (o + 5) 0)
  else if c = 64 ∨ c = 66 then wI M (o + (50 + lsn M o 4)) 3 (mI M (o + 5) 0)
  else if c = 62 then paM (o + (74 + 2 * lsn M o 5)) (mI (kwM r p (r + 3) i (cif (hsP M o (lsn M o 5) (fnd M (r + 3) (mJ M (p + 4) i))) (ntM r p 6 i M) M)) r 8) (kwM r p (r + 3) i (cif (hsP M o (lsn M o 5) (fnd M (r + 3) (mJ M (p + 4) i))) (ntM r p 6 i M) M))
  else if c = 63 then wI (wI (kwM r p (r + 1) i M) (o + (74 + 2 * lsn M o 5)) 0 (mI (kwM r p (r + 1) i M) r 8)) (o + (74 + 2 * lsn M o 5)) 1 (mI M (o + 5) 0)
  else if c = 65 then wI M (o + (74 + 2 * lsn M o 5)) 2 (mI M (o + 5) 0)
  else if 1000 ≤ c then (if c ≤ 1005 then wI (nbM r p 0 99 i M) (o + (19 + 2 * lsn M o 2)) (c - 1000) (mI (nbM r p 0 99 i M) r 8) else nbM r p 0 99 i (ntM r p 4 i M))
  else M
noncomputable def stp2 (Z : Nat → Nat) (r p o : Nat) (e : Nat × Nat) (M : gMem) : gMem := stp1 Z r p o e.1 e.2 (at' r e.2 M)
noncomputable def rnE (Z : Nat → Nat) (r p o : Nat) : List (Nat × Nat) → gMem → gMem
  | [], M => M
  | e :: t, M => rnE Z r p o t (stp2 Z r p o e M)
theorem rnE_app {Z : Nat → Nat} {r p o : Nat} : ∀ (a b : List (Nat × Nat)) (M : gMem), rnE Z r p o (a ++ b) M = rnE Z r p o b (rnE Z r p o a M)
  | [], b, M => rfl
  | e :: t, b, M => by rw [List.cons_append, rnE, rnE, rnE_app t b]
theorem at_at {r j k : Nat} {M : gMem} : at' r k (at' r j M) = at' r k M := wI_2 _ _ _ _ _
theorem rnE_at {Z : Nat → Nat} {r p o j k : Nat} {M : gMem} : ∀ (a : List (Nat × Nat)), at' r k (rnE Z r p o a (at' r j M)) = at' r k (rnE Z r p o a M)
  | [] => at_at
  | e :: t => by rw [rnE, rnE]; unfold stp2; rw [at_at]
theorem SF_n {r o : Nat} {M : gMem} (S : SF r o M) : lsn M o 2 < 8 ∧ lsn M o 3 < 8 ∧ lsn M o 4 < 24 ∧ lsn M o 5 < 6 := by
  obtain ⟨-, ⟨a, a1, a2⟩, ⟨b, b1, b2⟩, ⟨c, c1, c2⟩, ⟨d, d1, d2⟩, -⟩ := S
  unfold lsn
  rw [cn_e a2 (by omega), cn_e b2 (by omega), cn_e c2 (by omega), cn_e d2 (by omega)]
  omega
theorem CI_ng {r o : Nat} {M0 M : gMem} (ho : o + 86 ≤ r) (F : FRS o M) (C : CI r o M0 M) : CI r o M0 (ngM o M) ∧ CI r o M0 (nfM o M) ∧ CI r o M0 (npM o M) ∧ CI r o M0 (noM o M) := by
  have c2 : ∀ f n, (f = 2 ∧ n ≤ 8 ∨ f = 3 ∧ n ≤ 8 ∨ f = 4 ∧ n ≤ 24 ∨ f = 5 ∧ n ≤ 6) → CI r o M0 (wI M o f (nI n)) := fun f n h => by
    refine CI_w C (.inl (by omega)) (SF_w C.2.2.2.2 ?_ ?_ ?_ ?_ ?_ ?_ ?_)
    · intro a b; unfold isX at a; omega
    · intro _ b; exact ⟨n, by omega, rfl⟩
    · intro _ b; exact ⟨n, by omega, rfl⟩
    · intro _ b; exact ⟨n, by omega, rfl⟩
    · intro _ b; exact ⟨n, by omega, rfl⟩
    · intro a b; omega
    · intro a b; omega
  refine ⟨CI_cp ho (by omega) (by omega) (.inr (by omega)) (fun z => by omega) (fun _ => by omega) (c2 _ _ (by omega)), CI_cp ho (by omega) (by omega) (.inr (by omega)) (fun z => by omega) (fun _ => by omega) (c2 _ _ (by omega)), CI_cp ho (by omega) (by omega) (.inl rfl) (fun z => ⟨by omega, ?_⟩) (fun z => by omega) (c2 _ _ (by omega)), c2 _ _ (by omega)⟩
  rw [wI_o (by omega)]
  exact F.2.2.2.2.1 3 (by omega)
theorem CI_s1 {Z g ps vs : Nat → Nat} {K r p o c i : Nat} {M0 M : gMem} (W : CWd Z g ps vs K r p o M0) (C : CI r o M0 M) : CI r o M0 (stp1 Z r p o c i M) := by
  have ho := (W_ho W).2
  obtain ⟨n1, n2, n3, n4⟩ := SF_n C.2.2.2.2
  have wi : ∀ M1 d k v, CI r o M0 M1 → 18 ≤ d → d < 86 → (d < 74 ∨ k ≠ 3) → CI r o M0 (wI M1 (o + d) k v) := fun M1 d k v C1 h1 h2 h3 => CI_wI C1 (.inr (.inl (by omega))) (by unfold hot isX; omega)
  have cng : ∀ M1, CI r o M0 M1 → CI r o M0 (ngM o M1) ∧ CI r o M0 (nfM o M1) ∧ CI r o M0 (npM o M1) ∧ CI r o M0 (noM o M1) := fun M1 C1 => CI_ng ho (W_fr W C1) C1
  unfold stp1
  by_cases h : c = 16 ∨ c = 17 ∨ c = 4 ∨ c = 19
  · rw [if_pos h]; exact CI_ad ho (CI_kw ho C)
  rw [if_neg h]; clear h
  by_cases h : c = 2 ∨ c = 18
  · rw [if_pos h]; exact CI_ad ho (CI_kw ho C)
  rw [if_neg h]; clear h
  by_cases h : c = 41
  · rw [if_pos h]; exact CI_ad ho (CI_nb ho C)
  rw [if_neg h]; clear h
  by_cases h : c = 15 ∨ c = 44 ∨ c = 23 ∨ c = 24
  · rw [if_pos h]; exact CI_ad ho C
  rw [if_neg h]; clear h
  by_cases h : c < 45
  · rw [if_pos h]; exact CI_ad ho C
  rw [if_neg h]; clear h
  by_cases h : c = 51
  · rw [if_pos h]; exact (cng _ (CI_nw ho (.inl rfl) C)).1
  rw [if_neg h]; clear h
  by_cases h : c = 52
  · rw [if_pos h]; exact (cng _ (CI_nw ho (.inr (.inl rfl)) C)).2.1
  rw [if_neg h]; clear h
  by_cases h : c = 53
  · rw [if_pos h]; exact (cng _ (CI_nw ho (.inr (.inr rfl)) C)).2.2.1
  rw [if_neg h]; clear h
  by_cases h : c = 54
  · rw [if_pos h]
    refine (cng _ ?_).2.2.2
    split
    · exact C
    · exact CI_nt ho C
  rw [if_neg h]; clear h
  by_cases h : c = 55
  · rw [if_pos h]; exact wi _ _ _ _ (CI_nb ho C) (by omega) (by omega) (by omega)
  rw [if_neg h]; clear h
  by_cases h : c = 57
  · rw [if_pos h]; exact wi _ _ _ _ (wi _ _ _ _ (CI_nb ho C) (by omega) (by omega) (by omega)) (by omega) (by omega) (by omega)
  rw [if_neg h]; clear h
  by_cases h : c = 58
  · rw [if_pos h]; exact wi _ _ _ _ (CI_nb ho C) (by omega) (by omega) (by omega)
  rw [if_neg h]; clear h
  by_cases h : c = 59
  · rw [if_pos h]; exact wi _ _ _ _ (CI_nb ho C) (by omega) (by omega) (by omega)
  rw [if_neg h]; clear h
  by_cases h : c = 60
  · rw [if_pos h]; exact wi _ _ _ _ (CI_kw ho C) (by omega) (by omega) (by omega)
  rw [if_neg h]; clear h
  by_cases h : c = 61
  · rw [if_pos h]; exact wi _ _ _ _ (wi _ _ _ _ (CI_kw ho C) (by omega) (by omega) (by omega)) (by omega) (by omega) (by omega)
  rw [if_neg h]; clear h
  by_cases h : c = 64 ∨ c = 66
  · rw [if_pos h]; exact wi _ _ _ _ C (by omega) (by omega) (by omega)
  rw [if_neg h]; clear h
  by_cases h : c = 62
  · rw [if_pos h]
    refine CI_pa ho n4 (CI_kw ho ?_)
    by_cases q : hsP M o (lsn M o 5) (fnd M (r + 3) (mJ M (p + 4) i))
    · rw [cif_t q]; exact CI_nt ho C
    · rw [cif_f q]; exact C
  rw [if_neg h]; clear h
  by_cases h : c = 63
  · rw [if_pos h]; exact wi _ _ _ _ (wi _ _ _ _ (CI_kw ho C) (by omega) (by omega) (by omega)) (by omega) (by omega) (by omega)
  rw [if_neg h]; clear h
  by_cases h : c = 65
  · rw [if_pos h]; exact wi _ _ _ _ C (by omega) (by omega) (by omega)
  rw [if_neg h]; clear h
  by_cases h : 1000 ≤ c
  · rw [if_pos h]
    split
    · exact wi _ _ _ _ (CI_nb ho C) (by omega) (by omega) (by omega)
    · exact CI_nb ho (CI_nt ho C)
  rw [if_neg h]; exact C
theorem CI_rn {Z g ps vs : Nat → Nat} {K r p o : Nat} {M0 : gMem} (W : CWd Z g ps vs K r p o M0) : ∀ (a : List (Nat × Nat)) (M : gMem), CI r o M0 M → CI r o M0 (rnE Z r p o a M)
  | [], M, C => C
  | e :: t, M, C => CI_rn W t _ (CI_s1 W (CI_at (W_ho W).2 C))
theorem ad_at {Z : Nat → Nat} {r o c k : Nat} {v : Int32} {M : gMem} (ho : o + 86 ≤ r) : adM Z o c v (at' r k M) = at' r k (adM Z o c v M) := by
  have e1 : cn (at' r k M) (o + 5) 0 = cn M (o + 5) 0 := by
    unfold cn at'
    rw [wI_o (by omega)]
  unfold adM
  rw [e1]
  by_cases h : cn M (o + 5) 0 < 400
  · rw [if_pos h, if_pos h]
    unfold at'
    have e2 : wR (wI M r 6 (nI k)) (o + 6) (cn M (o + 5) 0) (some (Z c)) = wI (wR M (o + 6) (cn M (o + 5) 0) (some (Z c))) r 6 (nI k) := rfl
    rw [e2, wI_cm (a := r) (b := o + 7) (by omega), wI_cm (a := r) (b := o + 5) (by omega)]
  · rw [if_neg h, if_neg h]
theorem ad_6 {Z : Nat → Nat} {r o c : Nat} {v : Int32} {M : gMem} (ho : o + 86 ≤ r) : mI (adM Z o c v M) r 6 = mI M r 6 := by
  unfold adM
  split
  · rw [wI_o (by omega), wI_o (by omega)]; rfl
  · rfl
theorem ad_8 {Z : Nat → Nat} {r o c j : Nat} {v : Int32} {M : gMem} (ho : o + 86 ≤ r) : mI (adM Z o c v M) r j = mI M r j := by
  unfold adM
  split
  · rw [wI_o (by omega), wI_o (by omega)]; rfl
  · rfl

