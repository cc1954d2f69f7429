theorem kw_at {r i : Nat} {M : gMem} (h : mI M r 6 = nI i) : at' r i M = M := wI_s h
/-- a known name and what is added with it -/
theorem CR_kn {Z g ps vs : Nat → Nat} {K r p o : Nat} {M0 : gMem} (W : CWd Z g ps vs K r p o M0) {k c x : Nat} {M : gMem} {A B : gMem → Option (Int32 × gMem)} (C : CI r o M0 M) (h6 : mI M r 6 = nI k) (hk : k ≤ K) (hx : (x = r + 3 ∧ (c = 16 ∨ c = 17 ∨ c = 4 ∨ c = 19)) ∨ (x = r + 1 ∧ (c = 2 ∨ c = 18))) (hA : ∀ M1, CI r o M0 M1 → ∃ M2, A M1 = some ((0 : Int32), M2) ∧ CI r o M0 M2 ∧ mI M2 r 6 = mI M1 r 6) (hB : ∀ M1, CI r o M0 M1 → B M1 = some ((1 : Int32), adM Z o c (mI M1 r 8) M1)) : CRl Z r p o M0 M (nm g c k) (bd (f_X6_takeKnown Z M r (some x)) fun r1 M1 => if r1 = 0 then A M1 else B M1) := by
  have ho := (W_ho W).2
  have hX : isX r x := by rcases hx with h | h; exact .inr (.inl h.1); exact .inl h.1
  rw [C_known W C h6 hk hX]
  unfold nm
  by_cases q : g k = 40
  · have C1 : CI r o M0 (at' r (k + 1) (kwM r p x k M)) := CI_at ho (CI_kw ho C)
    rw [if_pos q, if_pos q, bd_S, if_neg (by decide), hB _ C1]
    refine ⟨_, rfl, CI_ad ho C1, by rw [ad_6 ho]; exact at_k, ?_⟩
    show sim r _ (stp2 Z r p o (c, k) M)
    unfold stp2
    rw [kw_at h6]
    have e8 : mI (at' r (k + 1) (kwM r p x k M)) r 8 = mI (kwM r p x k M) r 8 := wI_o (.inr (by omega))
    rw [e8]
    have e1 : stp1 Z r p o c k M = adM Z o c (mI (kwM r p x k M) r 8) (kwM r p x k M) := by
      unfold stp1
      rcases hx with ⟨h1, h2⟩ | ⟨h1, h2⟩
      · rw [if_pos h2, h1]
      · rw [if_neg (by omega), if_pos h2, h1]
    show sim r _ (stp1 Z r p o c k M)
    rw [e1]
    exact sim_ad ho sim_at
  · rw [if_neg q, if_neg q, bd_S, if_pos rfl]
    obtain ⟨M2, a1, a2, a3⟩ := hA M C
    exact ⟨M2, a1, a2, a3.trans h6⟩
theorem C_303 {Z g ps vs : Nat → Nat} {K r p o : Nat} {M0 : gMem} (W : CWd Z g ps vs K r p o M0) {c : Nat} {v : Int32} {F : Nat → gMem → Nat → Int32 → Option (Int32 × gMem)} {M : gMem} (C : CI r o M0 M) (hc : c < 45) (hv : v = 0 ∨ v = 1) : b_X6_value_303 Z F M r (some (Z c)) v = some (v, adM Z o c (mI M r 8) M) := by
  unfold b_X6_value_303
  rw [ck_t (C_6 W C), C_adS W C (kk := fun M4 => ck (v = 0 ∨ v = 1) <| some (v, M4)) hc, ck_t hv]
theorem C_A3 {Z g ps vs : Nat → Nat} {K r p o : Nat} {M0 : gMem} (W : CWd Z g ps vs K r p o M0) {c : Nat} {F : Nat → gMem → Nat → Int32 → Option (Int32 × gMem)} (hc : c < 45) : ∀ M1, CI r o M0 M1 → ∃ M2, b_X6_value_303 Z F M1 r (some (Z c)) 0 = some ((0 : Int32), M2) ∧ CI r o M0 M2 ∧ mI M2 r 6 = mI M1 r 6 := fun M1 C => ⟨_, C_303 W C hc (.inl rfl), CI_ad (W_ho W).2 C, ad_6 (W_ho W).2⟩
theorem nI_8 {d : Nat} (hd : d ≤ 8) : (8 : Int32) ≤ nI d ↔ 8 ≤ d := nI_leI (a := 8) (by omega) (by omega)
theorem C_single {Z g ps vs : Nat → Nat} {K r p o : Nat} {M0 : gMem} (W : CWd Z g ps vs K r p o M0) {n : Nat} {F : Nat → gMem → Nat → Int32 → Option (Int32 × gMem)} (IH : ∀ j k d M, j < 7 → CI r o M0 M → mI M r 6 = nI k → k ≤ K → d ≤ 8 → CRl Z r p o M0 M (Px g n j k d) (F j M r (nI d))) {k d : Nat} {M : gMem} (C : CI r o M0 M) (h6 : mI M r 6 = nI k) (hk : k ≤ K) (hd : d ≤ 8) : CRl Z r p o M0 M (if g k = 20 then (if 8 ≤ d then ft k else sq (Px g n 2 (k + 1) (d + 1)) (em (20, k)))
      else if g k = 27 then (if 8 ≤ d then ft k else sq (Px g n 0 (k + 1) (d + 1)) (tk1 g 28))
      else if g k = 19 then nm g 19 (k + 1)
      else sq (Px g n 4 k d) (fun k => Px g n 3 k d)) (fr_X6_single Z F M r (nI d)) := by
  have hK := W.2.2.2.2.2.1
  have H := W.2.2.2.2.2.2
  have hg := W.2.2.2.2.1 k
  have ho := (W_ho W).2
  obtain ⟨g5, g6, g7, -⟩ := gSw_0 (g k) hg
  have C1 : CI r o M0 (at' r (k + 1) M) := CI_at ho C
  unfold fr_X6_single b_X6_single_0
  rw [ck_t (C_6 W C), C_sign W C h6 hk, bd_S, ordZ_e W.2.2.2.1 hg, dr_S]
  by_cases c5 : g k = 20
  · rw [if_pos c5, if_pos (g5.mpr c5)]
    by_cases c8 : 8 ≤ d
    · rw [if_pos c8, if_pos ((nI_8 hd).mpr c8)]; exact ⟨M, rfl, C, h6⟩
    rw [if_neg c8, if_neg (fun z => c8 ((nI_8 hd).mp z)), ck_t (C_6 W C), C_take W C h6 hk (by decide), if_pos c5, bd_S, if_neg (by decide), ck_t (C_6 W C1), nI_1]
    have hk1 := H k hk (by omega)
    refine CR_sh (j := k + 1) (CR_sq (IH 2 (k + 1) (d + 1) (at' r (k + 1) M) (by decide) C1 at_k hk1 (by omega)) CR_A (fun es M1 e he C2 h2 => ?_))
    rw [ck_t (C_6 W C2), C_adS W C2 (kk := fun M8 => some ((1 : Int32), M8)) (by decide)]
    exact CR_op W C2 h2 (FP_e ((FP_Px H n 2 (k + 1) (d + 1) hk1).1 (by decide)) he).1 (by decide)
  rw [if_neg c5, if_neg (fun z => c5 (g5.mp z))]
  by_cases c6 : g k = 27
  · rw [if_pos c6, if_pos (g6.mpr c6)]
    unfold b_X6_single_124 b_X6_single_125
    rw [ck_t (.inl rfl)]
    by_cases c8 : 8 ≤ d
    · rw [if_pos c8, if_pos ((nI_8 hd).mpr c8)]; exact ⟨M, rfl, C, h6⟩
    rw [if_neg c8, if_neg (fun z => c8 ((nI_8 hd).mp z)), ck_t (C_6 W C), C_take W C h6 hk (by decide), if_pos c6, bd_S, if_neg (by decide), ck_t (C_6 W C1), nI_1]
    have hk1 := H k hk (by omega)
    refine CR_sh (j := k + 1) (CR_sq (IH 0 (k + 1) (d + 1) (at' r (k + 1) M) (by decide) C1 at_k hk1 (by omega)) (fun M1 C => ⟨M1, ck_t (.inl rfl), C, rfl⟩) (fun es M1 e he C2 h2 => ?_))
    rw [ck_t (C_6 W C2)]
    have he2 := (FP_e ((FP_Px H n 0 (k + 1) (d + 1) hk1).1 (by decide)) he).1
    have q := CR_tk W C2 h2 he2 (a := 28) (by decide)
    rw [C_take W C2 h2 he2 (by decide)] at q ⊢
    by_cases c : g e = 28
    · rw [if_pos c] at q ⊢
      rw [bd_S, if_neg (by decide), ck_t (.inr rfl)]; exact q
    · rw [if_neg c] at q ⊢
      rw [bd_S, if_pos rfl, ck_t (.inl rfl)]; exact q
  rw [if_neg c6, if_neg (fun z => c6 (g6.mp z))]
  by_cases c7 : g k = 19
  · rw [if_pos c7, if_pos (g7.mpr c7), ck_t (C_6 W C), C_take W C h6 hk (by decide), if_pos c7, bd_S, if_neg (by decide), ck_t (C_6 W C1), show mR (at' r (k + 1) M) r 4 = some (r + 3) from (W_o W C).1.1.2.2.2.2.1]
    exact CR_sh (CR_kn W C1 at_k (H k hk (by omega)) (.inl ⟨rfl, by decide⟩) CR_A (fun M1 C2 => by rw [ck_t (C_6 W C2), C_adS W C2 (kk := fun M8 => some ((1 : Int32), M8)) (by decide)]))
  rw [if_neg c7, if_neg (fun z => c7 (g7.mp z)), ck_t (C_6 W C)]
  unfold b_X6_single_188 b_X6_single_189
  refine CR_sq (IH 4 k d M (by decide) C h6 hk hd) (fun M1 C => ⟨M1, ck_t (.inl rfl), C, rfl⟩) (fun es M1 e he C2 h2 => ?_)
  rw [ck_t (C_6 W C2)]
  have he2 := (FP_e ((FP_Px H n 4 k d hk).1 (by decide)) he).1
  have q := IH 3 e d M1 (by decide) C2 h2 he2 hd
  match Px g n 3 e d, q with
  | none, _ => trivial
  | some (none, e1), ⟨M2, k1, k2, k3⟩ => exact ⟨M2, by rw [k1, bd_S, if_pos rfl, ck_t (.inl rfl)], k2, k3⟩
  | some (some es1, e1), ⟨M2, k1, k2, k3, k4⟩ => exact ⟨M2, by rw [k1, bd_S, if_neg (by decide), ck_t (.inr rfl)], k2, k3, k4⟩

