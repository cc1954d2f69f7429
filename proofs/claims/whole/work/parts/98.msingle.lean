/-! ## Pure: the reference's single tests and values -/
theorem MR_sq2 {vs : Nat → Nat} {m t d d1 : Nat} {M0 M : gMem} {x : Option (Option (List (Nat × Nat)) × Nat)} {f : Nat → Option (Option (List (Nat × Nat)) × Nat)} {y : Option (Int32 × gMem)} {B : gMem → Option (Int32 × gMem)} (ht : m + 7 ≤ t) (h : MRl vs m t d1 M0 M x y) (hB : ∀ es M1 e, x = some (some es, e) → MI m t M0 M1 → mI M1 m 9 = nI e → mI M1 m 10 = nI d1 → si2 m M1 (mrn vs m t es M) → MRl vs m t d M0 M1 (f e) (B M1)) : MRl vs m t d M0 M (sq x f) (bd y fun r1 M1 => if r1 = 0 then some ((0 : Int32), M1) else B M1) := by
  match x, h, hB with
  | none, _, _ => trivial
  | some (none, e), ⟨M1, h1, h2, h3⟩, _ => exact ⟨M1, by rw [h1, bd_S, if_pos rfl], h2, h3⟩
  | some (some es, e), ⟨M1, h1, h2, h3, h4, h5⟩, hB =>
    have key := hB es M1 e rfl h2 h3 h4 h5
    rw [h1, bd_S, if_neg (show ¬ (1 : Int32) = 0 by decide)]
    show MRl vs m t d M0 M (match f e with
      | none => none
      | some (none, k1) => some (none, k1)
      | some (some es1, k1) => some (some (es ++ es1), k1)) (B M1)
    match f e, key with
    | none, _ => trivial
    | some (none, e1), key => exact key
    | some (some es1, e1), ⟨M2, k1, k2, k3, k4, k5⟩ => exact ⟨M2, k1, k2, k3, k4, by rw [mrn_app]; exact si2_tr k5 (si2_rn ht es1 h5)⟩
theorem MR_si {vs : Nat → Nat} {m t d : Nat} {M0 M M1 : gMem} {x : Option (Option (List (Nat × Nat)) × Nat)} {y : Option (Int32 × gMem)} (ht : m + 7 ≤ t) (hs : si2 m M1 M) (h : MRl vs m t d M0 M1 x y) : MRl vs m t d M0 M x y := by
  match x, h with
  | none, _ => trivial
  | some (none, e), h => exact h
  | some (some es, e), ⟨M2, h1, h2, h3, h4, h5⟩ => exact ⟨M2, h1, h2, h3, h4, si2_tr h5 (si2_rn ht es hs)⟩
theorem MR_ck {vs : Nat → Nat} {m t d : Nat} {M0 M : gMem} {x : Option (Option (List (Nat × Nat)) × Nat)} {y : Option (Int32 × gMem)} (h : MRl vs m t d M0 M x y) : MRl vs m t d M0 M x (bd y fun r1 M1 => ck (r1 = 0 ∨ r1 = 1) <| some (r1, M1)) := by
  match x, h with
  | none, _ => trivial
  | some (none, e), ⟨M2, h1, h2, h3⟩ => exact ⟨M2, by rw [h1, bd_S, ck_t (.inl rfl)], h2, h3⟩
  | some (some es, e), ⟨M2, h1, h2, h3, h4, h5⟩ => exact ⟨M2, by rw [h1, bd_S, ck_t (.inr rfl)], h2, h3, h4, h5⟩
theorem MR_tk {vs : Nat → Nat} {m t d a e : Nat} {g : Nat → Nat} {M0 M : gMem} {y : Option (Int32 × gMem)} (ht : m + 7 ≤ t) (C : MI m t M0 M) (h9 : mI M m 9 = nI e) (h10 : mI M m 10 = nI d) (h : y = if g e = a then some ((1 : Int32), tk' m (e + 1) M) else some ((0 : Int32), M)) : MRl vs m t d M0 M (tk1 g a e) y := by
  unfold tk1
  by_cases c : g e = a
  · rw [if_pos c] at h ⊢
    exact ⟨_, h, MI_w C (.inl (by omega)) ht, wI_e _ _ _ _, (wI_o (.inr (by omega))).trans h10, si2_tk⟩
  · rw [if_neg c] at h ⊢
    exact ⟨M, h, C, h9⟩
theorem if_cg {α : Type} {p q : Prop} [Decidable p] [Decidable q] {a b : α} (h : p ↔ q) : (if p then a else b) = if q then a else b := by
  by_cases c : q
  · rw [if_pos c, if_pos (h.mpr c)]
  · rw [if_neg c, if_neg (fun z => c (h.mp z))]
theorem M_tkS {g vs : Nat → Nat} {K m t : Nat} {M0 : gMem} (W : MWd g K m t M0) {a c e d : Nat} {M : gMem} (C : MI m t M0 M) (h9 : mI M m 9 = nI e) (h10 : mI M m 10 = nI d) (he : e ≤ K) (hc : c < 900) (hh : mk (g e) = 50 + c ↔ g e = a) : MRl vs m t d M0 M (tk1 g a e) (f_X14_eatSign M m (nI c)) :=
  MR_tk W.1.2.2 C h9 h10 (by rw [M_eatSign W C h9 he hc, if_cg hh])
theorem M_tkE {g vs : Nat → Nat} {K m t : Nat} {M0 : gMem} (W : MWd g K m t M0) {a c e d : Nat} {M : gMem} (C : MI m t M0 M) (h9 : mI M m 9 = nI e) (h10 : mI M m 10 = nI d) (he : e ≤ K) (hc : c < 1000) (hh : mk (g e) = c ↔ g e = a) : MRl vs m t d M0 M (tk1 g a e) (f_X14_eat M m (nI c)) :=
  MR_tk W.1.2.2 C h9 h10 (by rw [M_eat W C h9 he hc, if_cg hh])
/-- a mark is put -/
theorem M_em {g vs : Nat → Nat} {K m t : Nat} {M0 : gMem} (W : MWd g K m t M0) {c i e d L : Nat} {M : gMem} (C : MI m t M0 M) (h9 : mI M m 9 = nI e) (h10 : mI M m 10 = nI d) (he : e ≤ K) (hL : mI M t 22 = nI L) (hl : L < 800) (hc : c = 15 ∨ c = 44 ∨ (20 ≤ c ∧ c ≤ 24) ∨ (31 ≤ c ∧ c ≤ 39)) : MRl vs m t d M0 M (em (c, i) e) (bd (f_X14_put M m (nI (opc c))) fun _ M5 => some ((1 : Int32), M5)) := by
  have ht := W.1.2.2
  have o9 : ∀ j, mI (puM t (nI (opc c)) M) m j = mI M m j := fun j => by unfold puM; rw [wI_o (.inl (by omega)), wI_o (.inl (by omega))]
  refine ⟨puM t (nI (opc c)) M, by rw [M_put W C hL hl, bd_S], MI_w (MI_w C (.inr (.inr (by omega))) ht) (.inr (.inr (by omega))) ht, by rw [o9]; exact h9, by rw [o9]; exact h10, ?_⟩
  show si2 m _ (mst1 vs m t c i M)
  rw [ms_op hc]
  exact fun _ _ => rfl
theorem su1 {n : Nat} : nI (n + 1) - (1 : Int32) = nI n := nI_sub (show 1 ≤ n + 1 by omega)
/-- one deeper -/
def dpM (m d : Nat) (M : gMem) : gMem := wI M m 10 (nI d)
theorem si2_dp {m d : Nat} {A : gMem} : si2 m (dpM m d A) A := fun a b => by
  unfold td' dpM
  rw [wI_cm (a := m) (k := 10) (b := m) (j := 9) (.inr (by omega)), wI_2]
theorem mQk_dp {m t d k : Nat} {M0 M : gMem} (ht : m + 7 ≤ t) (Q : mQk m t d M0 M k) : mQk m t (d + 1) M0 (tk' m (k + 1) (dpM m (d + 1) M)) (k + 1) := by
  obtain ⟨C, h9, h10, ⟨L, l1, l2⟩, ⟨n, n1, n2⟩⟩ := Q
  refine mQk_tk ht ⟨MI_w C (.inl (by omega)) ht, ?_, wI_e _ _ _ _, ⟨L, by omega, ?_⟩, ⟨n, by omega, ?_⟩⟩
  · unfold dpM; rw [wI_o (.inr (by omega))]; exact h9
  · unfold dpM; rw [wI_o (.inl (by omega))]; exact l2
  · unfold dpM; rw [wI_o (.inl (by omega))]; exact n2
theorem dp_dn {m t d e : Nat} {M0 M : gMem} (ht : m + 7 ≤ t) (C : MI m t M0 M) (h9 : mI M m 9 = nI e) (h10 : mI M m 10 = nI (d + 1)) : wI M m 10 (mI M m 10 - (1 : Int32)) = dpM m d M ∧ MI m t M0 (dpM m d M) ∧ mI (dpM m d M) m 9 = nI e ∧ mI (dpM m d M) m 10 = nI d ∧ ∀ a j, a ≠ m → mI (dpM m d M) a j = mI M a j := by
  refine ⟨?_, MI_w C (.inl (by omega)) ht, (wI_o (.inr (by omega))).trans h9, wI_e _ _ _ _, fun a j ha => wI_o (.inl ha)⟩
  rw [h10]
  unfold dpM
  rw [su1]
/-- a name behind a word -/
theorem M_nm {g vs : Nat → Nat} {K m t : Nat} {M0 : gMem} (W : MWd g K m t M0) {c k d : Nat} {v : Int32} {M : gMem} (Q : mQk m t d M0 M k) (hk : k ≤ K) (hg : g k = c) (hc : ((c = 16 ∨ c = 17 ∨ c = 4 ∨ c = 19) ∧ v = 14) ∨ ((c = 2 ∨ c = 18) ∧ v = 15)) : MRl vs m t d M0 M (nm g c (k + 1)) (bd (f_X14_isNamed M m v) fun r18 M18 => ck (r18 = 0 ∨ r18 = 1) <| some (r18, M18)) := by
  have ht := W.1.2.2
  have hK := W.2.2.2.1
  obtain ⟨C, h9, h10, ⟨L, l1, l2⟩, ⟨n, n1, n2⟩⟩ := Q
  have hk1 := W.2.2.2.2 k hk (by omega)
  have mc : mk (g k) = c := ((mk_i (g k) (W.2.2.1 k)).2.1 c (by omega) (by omega)).mpr hg
  rw [M_named W C h9 hk (by omega) l2 (by omega) n2 (by omega), mc]
  have C4 : MI m t M0 (nmM m t (nI c) v k M) := MI_w (MI_w (MI_w (MI_w (MI_w (MI_w (MI_w (MI_w C (.inr (.inr (by omega))) ht) (.inr (.inr (by omega))) ht) (.inl (by omega)) ht) (.inr (.inr (by omega))) ht) (.inr (.inr (by omega))) ht) (.inr (.inr (by omega))) ht) (.inr (.inr (by omega))) ht) (.inr (.inl rfl)) ht
  have o9 : ∀ j, mI (nmM m t (nI c) v k M) m j = mI (tk' m (k + 1) M) m j := fun j => by
    unfold nmM roM puM tk'
    rw [wI_o (.inl (by omega)), wI_o (.inl (by omega)), wI_o (.inl (by omega)), wI_o (.inl (by omega)), wI_o (.inl (by omega)), wI_cm (a := t) (b := m) (.inl (by omega)), wI_cm (a := t + 15) (b := m) (.inl (by omega)), wI_o (.inl (by omega)), wI_o (.inl (by omega))]
  unfold nm
  by_cases e : g (k + 1) = 40
  · rw [if_pos e, if_pos e, bd_S, ck_t (.inr rfl)]
    refine ⟨_, rfl, MI_w C4 (.inl (by omega)) ht, wI_e _ _ _ _, ?_, si2_tr si2_tk ?_⟩
    · unfold tk'
      rw [wI_o (.inr (by omega)), o9]
      unfold tk'
      rw [wI_o (.inr (by omega))]; exact h10
    · show si2 m _ (mst1 vs m t c (k + 1) M)
      have e1 : mst1 vs m t c (k + 1) M = nmE m t c v (k + 1) M := by
        unfold mst1
        rcases hc with ⟨h, h2⟩ | ⟨h, h2⟩
        · rw [if_pos h, h2]
        · rw [if_neg (by omega), if_pos h, h2]
      rw [e1]
      intro a b
      unfold nmM nmE
      have tw : ∀ X i j w, t ≤ i → wI (td' m a b X) i j w = td' m a b (wI X i j w) := fun X i j w h => td_w (t := t) (by omega)
      rw [← td_r, ← td_r, ← td_p ht, ← td_p ht, ← tw _ _ _ _ (Nat.le_refl _), ← tw _ _ _ _ (Nat.le_refl _), ← tw _ _ _ _ (by omega), ← tw _ _ _ _ (by omega), si2_tk a b]
  · rw [if_neg e, if_neg e, bd_S, ck_t (.inl rfl)]
    refine ⟨_, rfl, C4, ?_⟩
    rw [o9]
    exact wI_e _ _ _ _
theorem M_183 {g vs : Nat → Nat} {K m t : Nat} {M0 : gMem} (W : MWd g K m t M0) {F : Nat → gMem → Nat → Option (Int32 × gMem)} {c e d n : Nat} {M : gMem} (Q : mQk m t d M0 M e) (he : e ≤ K) (hg : g e = c) (hc : 35 ≤ c ∧ c ≤ 39) (ih : MRl vs m t d M0 (tk' m (e + 1) M) (Px g n 4 (e + 1) d) (F 3 (tk' m (e + 1) M) m)) : MRl vs m t d M0 M (sq (Px g n 4 (e + 1) d) (em (c, e))) (b_X14_isSingle_183 F M m (nI (opc c))) := by
  have ht := W.1.2.2
  have hK := W.2.2.2.1
  have H := W.2.2.2.2
  have t13 : ∀ X, MI m t M0 X → mT X m = 13 := fun X CX => (MI_B W.1 CX).1.1
  have he1 := H e he (by omega)
  have ho : opc c = c + 1 := by unfold opc; rw [if_neg (by omega), if_neg (by omega), if_pos (by omega)]
  unfold b_X14_isSingle_183
  rw [if_neg (show ¬ nI (opc c) = (-1 : Int32) from fun z => nI_nm1 (by omega) z), ck_t (t13 _ Q.1), Q.2.1, nI_1, lw_S]
  refine MR_si ht si2_tk (MR_sq2 ht ih (fun es M1 e1 hx C1 h9 h10 hs => ?_))
  have fe := (FP_Px H n 4 (e + 1) d he1).1 (by decide)
  have fe := FP_e fe hx
  have wp := WP_P es e1 hx
  obtain ⟨-, L, l1, l2⟩ := MQ_nx (vs := vs) (j := 2) ht Q (by omega) (by omega) (by omega) (AC_Px W.2.2.1 n 4 (e + 1) d es e1 hx) C1 h9 h10 (si2_tr hs (si2_rn ht es si2_tk))
  rw [ck_t (t13 _ C1)]
  exact M_em W C1 h9 h10 fe.1 l2 (by omega) (by omega)
theorem M_cmp {g vs : Nat → Nat} {K m t : Nat} {M0 : gMem} (W : MWd g K m t M0) {F : Nat → gMem → Nat → Option (Int32 × gMem)} {e : Nat} {M : gMem} (C : MI m t M0 M) (h9 : mI M m 9 = nI e) (he : e ≤ K) : (ck (mT M m = 13) <| bd (f_X14_isSign M m ((60 : Int32))) fun r15 M15 => (if r15 = 0 then ck (mT M15 m = 13) <| bd (f_X14_isSign M15 m ((62 : Int32))) fun r17 M17 => (if r17 = 0 then ck (mT M17 m = 13) <| bd (f_X14_isSign M17 m ((61 : Int32))) fun r19 M19 => (if r19 = 0 then ck (mT M19 m = 13) <| bd (f_X14_is M19 m ((300 : Int32))) fun r21 M21 => (if r21 = 0 then ck (mT M21 m = 13) <| bd (f_X14_is M21 m ((301 : Int32))) fun r23 M23 => (if r23 = 0 then b_X14_isSingle_183 F M23 m ((-1 : Int32)) else b_X14_isSingle_183 F M23 m ((40 : Int32))) else b_X14_isSingle_183 F M21 m ((39 : Int32))) else b_X14_isSingle_183 F M19 m ((38 : Int32))) else b_X14_isSingle_183 F M17 m ((37 : Int32))) else b_X14_isSingle_183 F M15 m ((36 : Int32)))) = b_X14_isSingle_183 F M m (if 35 ≤ g e ∧ g e ≤ 39 then nI (opc (g e)) else -1) := by
  have t0 := (MI_B W.1 C).1.1
  obtain ⟨-, -, -, i38, i39⟩ := mk_i (g e) (W.2.2.1 e)
  obtain ⟨-, -, -, -, -, -, -, -, -, -, i35, i36, i37⟩ := mk_s (g e) (W.2.2.1 e)
  rw [ck_t t0, show (60 : Int32) = nI 60 from rfl, M_isSign W C h9 he (by decide)]
  by_cases c : g e = 35
  · rw [if_pos (i35.mpr c), bd_S, if_neg (show ¬ (1 : Int32) = 0 by decide), if_pos (by omega), c]; rfl
  rw [if_neg (fun z => c (i35.mp z)), bd_S, if_pos rfl, ck_t t0, show (62 : Int32) = nI 62 from rfl, M_isSign W C h9 he (by decide)]
  by_cases c2 : g e = 36
  · rw [if_pos (i36.mpr c2), bd_S, if_neg (show ¬ (1 : Int32) = 0 by decide), if_pos (by omega), c2]; rfl
  rw [if_neg (fun z => c2 (i36.mp z)), bd_S, if_pos rfl, ck_t t0, show (61 : Int32) = nI 61 from rfl, M_isSign W C h9 he (by decide)]
  by_cases c3 : g e = 37
  · rw [if_pos (i37.mpr c3), bd_S, if_neg (show ¬ (1 : Int32) = 0 by decide), if_pos (by omega), c3]; rfl
  rw [if_neg (fun z => c3 (i37.mp z)), bd_S, if_pos rfl, ck_t t0, show (300 : Int32) = nI 300 from rfl, M_is W C h9 he (by decide)]
  by_cases c4 : g e = 38
  · rw [if_pos (i38.mpr c4), bd_S, if_neg (show ¬ (1 : Int32) = 0 by decide), if_pos (by omega), c4]; rfl
  rw [if_neg (fun z => c4 (i38.mp z)), bd_S, if_pos rfl, ck_t t0, show (301 : Int32) = nI 301 from rfl, M_is W C h9 he (by decide)]
  by_cases c5 : g e = 39
  · rw [if_pos (i39.mpr c5), bd_S, if_neg (show ¬ (1 : Int32) = 0 by decide), if_pos (by omega), c5]; rfl
  rw [if_neg (fun z => c5 (i39.mp z)), bd_S, if_pos rfl, if_neg (by omega)]
theorem M_isSingle {g vs : Nat → Nat} {K m t : Nat} {M0 : gMem} (W : MWd g K m t M0) {n : Nat} {F : Nat → gMem → Nat → Option (Int32 × gMem)} (IH : ∀ j k d M, j < 7 → j ≠ 3 → mQk m t d M0 M k → k ≤ K → d ≤ 8 → MRl vs m t d M0 M (Px g n j k d) (F (if j < 3 then j else j - 1) M m)) (IH3 : ∀ n1 k d M, n = n1 + 1 → mQk m t d M0 M k → k ≤ K → d ≤ 8 → MRl vs m t d M0 M (Px g n1 4 k d) (F 3 M m)) {k d : Nat} {M : gMem} (Q : mQk m t d M0 M k) (hk : k ≤ K) (hd : d ≤ 8) : MRl vs m t d M0 M (if g k = 20 then (if 8 ≤ d then ft k else sq (Px g n 2 (k + 1) (d + 1)) (em (20, k)))
      else if g k = 27 then (if 8 ≤ d then ft k else sq (Px g n 0 (k + 1) (d + 1)) (tk1 g 28))
      else if g k = 19 then nm g 19 (k + 1)
      else sq (Px g n 4 k d) (fun k => Px g n 3 k d)) (fr_X14_isSingle F M m) := by
  have ht := W.1.2.2
  have hK := W.2.2.2.1
  have H := W.2.2.2.2
  have t13 : ∀ X, MI m t M0 X → mT X m = 13 := fun X CX => (MI_B W.1 CX).1.1
  have t0 := t13 _ Q.1
  obtain ⟨-, mi, -⟩ := mk_i (g k) (W.2.2.1 k)
  obtain ⟨-, -, i27, -⟩ := mk_s (g k) (W.2.2.1 k)
  have i20 := mi 20 (by decide) (by decide)
  have i19 := mi 19 (by decide) (by decide)
  unfold fr_X14_isSingle b_X14_isSingle_0
  rw [ck_t t0, show (20 : Int32) = nI 20 from rfl, M_is W Q.1 Q.2.1 hk (by decide)]
  by_cases c : g k = 20
  · have hk1 := H k hk (by omega)
    have Q1 := mQk_dp ht Q
    rw [if_pos c, if_pos (i20.mpr c), bd_S, if_neg (show ¬ (1 : Int32) = 0 by decide), ck_t t0, M_deep W Q.1 Q.2.1 hk Q.2.2.1 hd]
    by_cases c8 : 8 ≤ d
    · rw [if_pos c8, if_pos c8, bd_S, if_pos rfl]; exact ⟨M, rfl, Q.1, Q.2.1⟩
    rw [if_neg c8, if_neg c8, bd_S, if_neg (show ¬ (1 : Int32) = 0 by decide)]
    show MRl vs m t d M0 M _ (ck (mT (tk' m (k + 1) (dpM m (d + 1) M)) m = 13) _)
    rw [ck_t (t13 _ Q1.1)]
    refine MR_si ht (si2_tr si2_tk si2_dp) (MR_sq2 ht (IH 2 (k + 1) (d + 1) _ (by decide) (by decide) Q1 hk1 (by omega)) (fun es M1 e1 hx C1 h9 h10 hs => ?_))
    have fe := FP_e ((FP_Px H n 2 (k + 1) (d + 1) hk1).1 (by decide)) hx
    have wp := WP_P es e1 hx
    obtain ⟨b1, b2, b3, b4, b5⟩ := dp_dn ht C1 h9 h10
    have hs2 : si2 m (dpM m d M1) (mrn vs m t es M) := si2_tr si2_dp (si2_tr hs (si2_rn ht es (si2_tr si2_tk si2_dp)))
    obtain ⟨-, L, l1, l2⟩ := MQ_nx (vs := vs) (j := 2) ht Q (by omega) (by omega) (by omega) (AC_Px W.2.2.1 n 2 (k + 1) (d + 1) es e1 hx) b2 b3 b4 hs2
    rw [ck_t (t13 _ C1), b1, lw_S]
    exact MR_si ht si2_dp (M_em (c := 20) W b2 b3 b4 fe.1 l2 (by omega) (by decide))
  rw [if_neg c, if_neg (fun z => c (i20.mp z)), bd_S, if_pos rfl, ck_t t0, show (91 : Int32) = nI 91 from rfl, M_isSign W Q.1 Q.2.1 hk (by decide)]
  by_cases c2 : g k = 27
  · have hk1 := H k hk (by omega)
    have Q1 := mQk_dp ht Q
    rw [if_pos c2, if_pos (i27.mpr c2), bd_S, if_neg (show ¬ (1 : Int32) = 0 by decide), ck_t t0, M_deep W Q.1 Q.2.1 hk Q.2.2.1 hd]
    by_cases c8 : 8 ≤ d
    · rw [if_pos c8, if_pos c8, bd_S, if_pos rfl]; exact ⟨M, rfl, Q.1, Q.2.1⟩
    rw [if_neg c8, if_neg c8, bd_S, if_neg (show ¬ (1 : Int32) = 0 by decide)]
    show MRl vs m t d M0 M _ (ck (mT (tk' m (k + 1) (dpM m (d + 1) M)) m = 13) _)
    rw [ck_t (t13 _ Q1.1)]
    refine MR_si ht (si2_tr si2_tk si2_dp) (MR_sq2 ht (IH 0 (k + 1) (d + 1) _ (by decide) (by decide) Q1 hk1 (by omega)) (fun es M1 e1 hx C1 h9 h10 hs => ?_))
    have fe := FP_e ((FP_Px H n 0 (k + 1) (d + 1) hk1).1 (by decide)) hx
    obtain ⟨b1, b2, b3, b4, b5⟩ := dp_dn ht C1 h9 h10
    rw [ck_t (t13 _ C1), b1, lw_S]
    exact MR_ck (MR_si ht si2_dp (M_tkS (c := 93) W b2 b3 b4 fe.1 (by decide) (mk_s (g e1) (W.2.2.1 e1)).2.2.2.1))
  rw [if_neg c2, if_neg (fun z => c2 (i27.mp z)), bd_S, if_pos rfl, ck_t t0, show (19 : Int32) = nI 19 from rfl, M_is W Q.1 Q.2.1 hk (by decide)]
  by_cases c3 : g k = 19
  · rw [if_pos c3, if_pos (i19.mpr c3), bd_S, if_neg (show ¬ (1 : Int32) = 0 by decide), ck_t t0]
    exact M_nm W Q hk c3 (.inl ⟨by decide, rfl⟩)
  rw [if_neg c3, if_neg (fun z => c3 (i19.mp z)), bd_S, if_pos rfl, ck_t t0]
  refine MR_sq2 ht (IH 4 k d M (by decide) (by decide) Q hk hd) (fun es M1 e1 hx C1 h9 h10 hs => ?_)
  have fe := FP_e ((FP_Px H n 4 k d hk).1 (by decide)) hx
  have wp := WP_P es e1 hx
  obtain ⟨Q1, -⟩ := MQ_nx (vs := vs) (j := 0) ht Q (by omega) (by omega) (by omega) (AC_Px W.2.2.1 n 4 k d es e1 hx) C1 h9 h10 hs
  rw [M_cmp (vs := vs) W C1 h9 fe.1]
  match n, IH3 with
  | 0, _ => trivial
  | n1 + 1, IH3 =>
    rw [Px, if_neg (by decide), if_neg (by decide), if_neg (by decide), if_pos rfl]
    by_cases c4 : 35 ≤ g e1 ∧ g e1 ≤ 39
    · rw [if_pos c4, if_pos c4]
      exact M_183 W Q1 fe.1 rfl c4 (IH3 n1 _ _ _ rfl (mQk_tk ht Q1) (H e1 fe.1 (by omega)) hd)
    · rw [if_neg c4, if_neg c4]
      unfold b_X14_isSingle_183
      rw [if_pos rfl]
      exact ⟨M1, rfl, C1, h9⟩
