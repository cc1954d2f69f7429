/-! ## Pure: one event more: grounds and fishers -/
def RA (Z vs : Nat → Nat) (r o m t : Nat) (L1 L2 L3 : List Nat) (E : List (Nat × Nat)) (nO k : Nat) (q : Nat × Nat × Nat × Nat) (C D : gMem) : Prop :=
  mI C r 7 = 0 ∧ RG vs r o t L1 q.1 C D ∧ RF vs r o t L2 q.2.1 C D ∧ RO o t L2.length L1.length nO q.2.2.1 C D ∧ RP vs r o t L2.length L1.length L3 q.2.2.2 C D ∧ RV Z vs o m L2.length L1.length E k C D
theorem ER_k {r e i : Nat} {ps : Nat → Nat} {A B : gMem} (he : e ≠ 0) (he2 : e < 16) (h : ER r e i ps A) (k : kpE r A B) : ER r e i ps B := by
  have h0 : mI A r 7 ≠ 0 := by rw [h.1]; exact nI_ne (b := 0) he (by omega) (by omega)
  obtain ⟨a, b⟩ := k h0
  exact ⟨a.trans h.1, b.trans h.2⟩
theorem X_J {Z g ps vs : Nat → Nat} {K r p o : Nat} {M0 : gMem} (W : CWd Z g ps vs K r p o M0) {X : gMem} (CX : CI r o M0 X) {i : Nat} (hi : i ≤ K) (hg : g i = 40 ∨ g i = 41) : mJ X (p + 4) i = lN (vs i) := ((W_o W CX).2 i hi).2.2 hg
theorem X_ps {Z g ps vs : Nat → Nat} {K r p o : Nat} {M0 : gMem} (W : CWd Z g ps vs K r p o M0) {X : gMem} (CX : CI r o M0 X) {i : Nat} (hi : i ≤ K) : mI X (p + 3) i = nI (ps i) := ((W_o W CX).2 i hi).2.1
theorem ER_nt {Z g ps vs : Nat → Nat} {K r p o : Nat} {M0 : gMem} (W : CWd Z g ps vs K r p o M0) {X : gMem} (CX : CI r o M0 X) {i : Nat} (hi : i ≤ K) {e : Nat} (h7 : mI X r 7 = 0) : ER r e i ps (ntM r p (nI e) i X) := by
  have ho := W_ho W
  rw [nt_0 h7]
  exact ⟨(wI_o (.inr (by decide))).trans (wI_e _ _ _ _), by rw [wI_e]; exact X_ps W CX hi⟩
theorem kw_f {Z g ps vs : Nat → Nat} {K r p o : Nat} {M0 : gMem} (W : CWd Z g ps vs K r p o M0) {X : gMem} (CX : CI r o M0 X) {i : Nat} (hi : i ≤ K) {x j : Nat} {L : List Nat} (N : NL vs x L X) (hg : g i = 40) (hv : vs i < 2 ^ 62) (h : lkL vs (vs i) L 0 = some j) : kwM r p x i X = wI X r 8 (nI j) := by
  have hj := lkL_lt h
  have h8 := N.2.1
  unfold kwM
  rw [X_J W CX hi (.inl hg), fnd_L N hv, h]
  exact if_pos (nI_le (a := 0) (by omega) (by omega))
theorem kw_n {Z g ps vs : Nat → Nat} {K r p o : Nat} {M0 : gMem} (W : CWd Z g ps vs K r p o M0) {X : gMem} (CX : CI r o M0 X) {i : Nat} (hi : i ≤ K) {x : Nat} {L : List Nat} (N : NL vs x L X) (hg : g i = 40) (hv : vs i < 2 ^ 62) (h : lkL vs (vs i) L 0 = none) (h7 : mI X r 7 = 0) : ER r 3 i ps (kwM r p x i X) := by
  have ho := W_ho W
  unfold kwM
  rw [X_J W CX hi (.inl hg), fnd_L N hv, h, if_neg (show ¬ (0 : Int32) ≤ tdV none from by decide)]
  exact ER_k (by decide) (by decide) (ER_nt (e := 3) W (CI_wI CX (.inr (.inr (by omega))) (by unfold hot isX; omega)) hi ((wI_o (.inr (by decide))).trans h7)) (kp_w (.inr (by decide)))
theorem nb_f {Z g ps vs : Nat → Nat} {K r p o : Nat} {M0 : gMem} (W : CWd Z g ps vs K r p o M0) {X : gMem} (CX : CI r o M0 X) {i : Nat} (hi : i ≤ K) {lo hh : Nat} (hg : g i = 41) (hv : vs i < 1000000) (hl : lo < 2 ^ 30) (hh2 : hh < 2 ^ 30) (h : lo ≤ vs i ∧ vs i ≤ hh) : nbM r p (nI lo) (nI hh) i X = wI X r 8 (nI (vs i)) := by
  unfold nbM
  rw [X_J W CX hi (.inr hg), lN_32]
  refine if_neg (fun z => ?_)
  rcases z with z | z
  · have := (nI_ltI (by omega) (by omega)).mp z; omega
  · have := (nI_ltI (by omega) (by omega)).mp z; omega
theorem nb_n {Z g ps vs : Nat → Nat} {K r p o : Nat} {M0 : gMem} (W : CWd Z g ps vs K r p o M0) {X : gMem} (CX : CI r o M0 X) {i : Nat} (hi : i ≤ K) {lo hh : Nat} (hg : g i = 41) (hv : vs i < 1000000) (hl : lo < 2 ^ 30) (hh2 : hh < 2 ^ 30) (h : ¬ (lo ≤ vs i ∧ vs i ≤ hh)) (h7 : mI X r 7 = 0) : ER r 5 i ps (nbM r p (nI lo) (nI hh) i X) := by
  have ho := W_ho W
  unfold nbM
  rw [X_J W CX hi (.inr hg), lN_32, if_pos (by
    by_cases c : vs i < lo
    · exact .inl (nI_lt c (by omega))
    · exact .inr (nI_lt (by omega) (by omega)))]
  exact ER_nt (e := 5) W (CI_wI CX (.inr (.inr (by omega))) (by unfold hot isX; omega)) hi ((wI_o (.inr (by decide))).trans h7)
theorem nw_f {Z g ps vs : Nat → Nat} {K r p o : Nat} {M0 : gMem} (W : CWd Z g ps vs K r p o M0) {X : gMem} (CX : CI r o M0 X) {i : Nat} (hi : i ≤ K) {x : Nat} {L : List Nat} (N : NL vs x L X) (hg : g i = 40) (hv : vs i < 2 ^ 62) (h : lkL vs (vs i) L 0 = none) (hc : L.length < cap r x) : nwM r p x i X = wI (wJ X (x + 1) L.length (lN (vs i))) x 1 (nI (L.length + 1)) := by
  have h8 := N.2.1
  have e1 : cn X x 1 = L.length := cn_e N.1 (by omega)
  unfold nwM
  rw [X_J W CX hi (.inl hg), fnd_L N hv, h, if_pos (show tdV none < (0 : Int32) from by decide), e1, if_pos hc]
theorem nw_c {Z g ps vs : Nat → Nat} {K r p o : Nat} {M0 : gMem} (W : CWd Z g ps vs K r p o M0) {X : gMem} (CX : CI r o M0 X) {i : Nat} (hi : i ≤ K) {x : Nat} {L : List Nat} (N : NL vs x L X) (hg : g i = 40) (hv : vs i < 2 ^ 62) (h : lkL vs (vs i) L 0 = none) (hc : ¬ L.length < cap r x) (h7 : mI X r 7 = 0) : ER r 4 i ps (nwM r p x i X) := by
  have h8 := N.2.1
  have e1 : cn X x 1 = L.length := cn_e N.1 (by omega)
  unfold nwM
  rw [X_J W CX hi (.inl hg), fnd_L N hv, h, if_pos (show tdV none < (0 : Int32) from by decide), e1, if_neg hc]
  exact ER_nt (e := 4) W CX hi h7
theorem nw_d {Z g ps vs : Nat → Nat} {K r p o : Nat} {M0 : gMem} (W : CWd Z g ps vs K r p o M0) {X : gMem} (CX : CI r o M0 X) {i : Nat} (hi : i ≤ K) {x j : Nat} {L : List Nat} (N : NL vs x L X) (hg : g i = 40) (hv : vs i < 2 ^ 62) (h : lkL vs (vs i) L 0 = some j) (h7 : mI X r 7 = 0) : ER r 2 i ps (nwM r p x i X) := by
  have hj := lkL_lt h
  have h8 := N.2.1
  unfold nwM
  rw [X_J W CX hi (.inl hg), fnd_L N hv, h, if_neg (show ¬ tdV (some j) < (0 : Int32) from nI_pos (by omega))]
  exact ER_nt (e := 2) W CX hi h7
/-- a name more -/
theorem NL_s {vs : Nat → Nat} {x i : Nat} {L : List Nat} {X Y : gMem} (N : NL vs x L X) (h8 : L.length < 8) (hv : vs i < 2 ^ 62) (h1 : mI Y x 1 = nI (L.length + 1)) (h2 : ∀ j, mJ Y (x + 1) j = if j = L.length then lN (vs i) else mJ X (x + 1) j) : NL vs x (L ++ [i]) Y := by
  have hl : (L ++ [i]).length = L.length + 1 := by rw [List.length_append]; rfl
  refine ⟨by rw [hl]; exact h1, by omega, fun j hj => ?_, fun y hy => ?_⟩
  · rw [h2]
    by_cases c : j = L.length
    · subst c
      rw [if_pos rfl, List.getElem_append_right (Nat.le_refl _)]
      simp
    · rw [if_neg c, List.getElem_append_left (show j < L.length by omega)]
      exact N.2.2.1 j (by omega)
  · rcases List.mem_append.mp hy with h | h
    · exact N.2.2.2 y h
    · rw [List.mem_singleton.mp h]; exact hv
theorem cp_r {S : Nat → Nat → Bool} {a b c k : Nat} {M : gMem} : mI (cpS S a b M) c k = if (c = a ∨ c = a + 1) ∧ S (c - a) k = true then mI M (b + (c - a)) k else mI M c k := rfl
theorem wJ_r {M : gMem} {a k b j : Nat} {v : Int64} : mJ (wJ M a k v) b j = if b = a ∧ j = k then v else mJ M b j := rfl
