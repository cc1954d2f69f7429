theorem CR_v303 {Z g ps vs : Nat → Nat} {K r p o : Nat} {M0 : gMem} (W : CWd Z g ps vs K r p o M0) {k c i : Nat} {F : Nat → gMem → Nat → Int32 → Option (Int32 × gMem)} {M : gMem} (C : CI r o M0 M) (h6 : mI M r 6 = nI k) (hk : k ≤ K) (hc : c = 15 ∨ c = 44 ∨ c = 23 ∨ c = 24) : CRl Z r p o M0 M (em (c, i) k) (b_X6_value_303 Z F M r (some (Z c)) 1) := by
  rw [C_303 W C (by omega) (.inr rfl)]
  exact CR_vl W C h6 hk hc
theorem C_value {Z g ps vs : Nat → Nat} {K r p o : Nat} {M0 : gMem} (W : CWd Z g ps vs K r p o M0) {n : Nat} {F : Nat → gMem → Nat → Int32 → Option (Int32 × gMem)} (IH : ∀ j k d M, j < 7 → CI r o M0 M → mI M r 6 = nI k → k ≤ K → d ≤ 8 → CRl Z r p o M0 M (Px g n j k d) (F j M r (nI d))) {k d : Nat} {M : gMem} (C : CI r o M0 M) (h6 : mI M r 6 = nI k) (hk : k ≤ K) (hd : d ≤ 8) : CRl Z r p o M0 M (if g k = 41 then em (41, k) (k + 1)
      else if g k = 15 then em (15, k) (k + 1)
      else if g k = 16 ∨ g k = 17 ∨ g k = 4 then nm g (g k) (k + 1)
      else if g k = 2 ∨ g k = 18 then nm g (g k) (k + 1)
      else if g k = 32 then (if 8 ≤ d then ft k else sq (Px g n 6 (k + 1) (d + 1)) (em (44, k)))
      else if g k = 25 then (if 8 ≤ d then ft k else sq (Px g n 4 (k + 1) (d + 1)) (tk1 g 26))
      else if g k = 23 ∨ g k = 24 then
        (if 8 ≤ d then ft (k + 1) else sq (tk1 g 25 (k + 1)) fun k1 => sq (Px g n 4 k1 (d + 1)) fun k2 => sq (tk1 g 30 k2) fun k3 => sq (Px g n 4 k3 (d + 1)) fun k4 => sq (tk1 g 26 k4) (em (g k, k)))
      else ft k) (fr_X6_value Z F M r (nI d)) := by
  have hK := W.2.2.2.2.2.1
  have H := W.2.2.2.2.2.2
  have hg := W.2.2.2.2.1 k
  have ho := (W_ho W).2
  obtain ⟨s13, s14, s15, s16, s17, s18, s19, s20, s21, s22, s23⟩ := gSw_1 (g k) hg
  have C1 : CI r o M0 (at' r (k + 1) M) := CI_at ho C
  unfold fr_X6_value b_X6_value_0
  rw [ck_t (C_6 W C), C_sign W C h6 hk, bd_S, ordZ_e W.2.2.2.1 hg, dr_S]
  by_cases c : g k = 41
  · rw [if_pos c, if_pos (s13.mpr c), ck_t (C_6 W C), C_num W C h6 hk, if_pos c, bd_S]
    have C2 : CI r o M0 (at' r (k + 1) (nbM r p 0 999999 k M)) := CI_at ho (CI_nb ho C)
    rw [C_303 W C2 hg (.inr rfl), show mI (at' r (k + 1) (nbM r p 0 999999 k M)) r 8 = mI (nbM r p 0 999999 k M) r 8 from wI_o (.inr (by omega))]
    refine ⟨_, rfl, CI_ad ho C2, by rw [ad_6 ho]; exact at_k, ?_⟩
    show sim r _ (stp2 Z r p o (41, k) M)
    unfold stp2
    rw [kw_at h6, c]
    have e1 : stp1 Z r p o 41 k M = adM Z o 41 (mI (nbM r p 0 999999 k M) r 8) (nbM r p 0 999999 k M) := by
      unfold stp1
      rw [if_neg (by decide), if_neg (by decide), if_pos rfl]
    show sim r _ (stp1 Z r p o 41 k M)
    rw [e1]
    exact sim_ad ho sim_at
  rw [if_neg c, if_neg (fun z => c (s13.mp z))]; clear c s13
  by_cases c : g k = 15
  · rw [if_pos c, if_pos (s14.mpr c), ck_t (C_6 W C), C_take W C h6 hk (by omega), if_pos rfl, bd_S, c]
    exact CR_sh (CR_v303 W C1 at_k (H k hk (by omega)) (by decide))
  rw [if_neg c, if_neg (fun z => c (s14.mp z))]; clear c s14
  have r4 : mR (at' r (k + 1) M) r 4 = some (r + 3) := (W_o W C).1.1.2.2.2.2.1
  have r3 : mR (at' r (k + 1) M) r 3 = some (r + 1) := (W_o W C).1.1.2.2.2.1
  have e93 : (g k = 16 ∨ g k = 17 ∨ g k = 4) → CRl Z r p o M0 M (nm g (g k) (k + 1)) (b_X6_value_93 Z F M r (some (Z (g k)))) := fun c => by
    unfold b_X6_value_93 b_X6_value_116 b_X6_value_117
    rw [ck_t (C_6 W C), C_take W C h6 hk (by omega), if_pos rfl, bd_S, if_neg (by decide), ck_t (C_6 W C1), r4]
    exact CR_sh (CR_kn W C1 at_k (H k hk (by omega)) (.inl ⟨rfl, by omega⟩) (C_A3 W hg) (fun M1 C2 => C_303 W C2 hg (.inr rfl)))
  have e121 : (g k = 2 ∨ g k = 18) → CRl Z r p o M0 M (nm g (g k) (k + 1)) (b_X6_value_121 Z F M r (some (Z (g k)))) := fun c => by
    unfold b_X6_value_121 b_X6_value_144 b_X6_value_145
    rw [ck_t (C_6 W C), C_take W C h6 hk (by omega), if_pos rfl, bd_S, if_neg (by decide), ck_t (C_6 W C1), r3]
    exact CR_sh (CR_kn W C1 at_k (H k hk (by omega)) (.inr ⟨rfl, by omega⟩) (C_A3 W hg) (fun M1 C2 => C_303 W C2 hg (.inr rfl)))
  by_cases c : g k = 16 ∨ g k = 17 ∨ g k = 4
  · rw [if_pos c]
    by_cases d0 : g k = 16
    · rw [if_pos (s15.mpr d0)]; exact e93 c
    rw [if_neg (fun z => d0 (s15.mp z))]
    by_cases d1 : g k = 17
    · rw [if_pos (s16.mpr d1)]; exact e93 c
    rw [if_neg (fun z => d1 (s16.mp z)), if_pos (s17.mpr (by omega))]; exact e93 c
  rw [if_neg c, if_neg (fun z => c (.inl (s15.mp z))), if_neg (fun z => c (.inr (.inl (s16.mp z)))), if_neg (fun z => c (.inr (.inr (s17.mp z))))]; clear c s15 s16 s17
  by_cases c : g k = 2 ∨ g k = 18
  · rw [if_pos c]
    by_cases d0 : g k = 2
    · rw [if_pos (s18.mpr d0)]; exact e121 c
    rw [if_neg (fun z => d0 (s18.mp z)), if_pos (s19.mpr (by omega))]; exact e121 c
  rw [if_neg c, if_neg (fun z => c (.inl (s18.mp z))), if_neg (fun z => c (.inr (s19.mp z)))]; clear c s18 s19
  by_cases c : g k = 32
  · rw [if_pos c, if_pos (s20.mpr c)]
    unfold b_X6_value_183 b_X6_value_184
    by_cases c8 : 8 ≤ d
    · rw [if_pos c8, if_pos ((nI_8 hd).mpr c8)]
      obtain ⟨M2, a1, a2, a3⟩ := C_A3 W (c := 44) (F := F) (by decide) M C
      exact ⟨M2, a1, a2, a3.trans h6⟩
    rw [if_neg c8, if_neg (fun z => c8 ((nI_8 hd).mp z)), ck_t (C_6 W C), C_take W C h6 hk (by decide), if_pos c, bd_S, if_neg (by decide), ck_t (C_6 W C1), nI_1]
    have hk1 := H k hk (by omega)
    refine CR_sh (j := k + 1) (CR_sq (IH 6 (k + 1) (d + 1) (at' r (k + 1) M) (by decide) C1 at_k hk1 (by omega)) (C_A3 W (by decide)) (fun es M1 e he C2 h2 => ?_))
    exact CR_v303 W C2 h2 (FP_e ((FP_Px H n 6 (k + 1) (d + 1) hk1).1 (by decide)) he).1 (by decide)
  rw [if_neg c, if_neg (fun z => c (s20.mp z))]; clear c s20
  by_cases c : g k = 25
  · rw [if_pos c, if_pos (s21.mpr c)]
    unfold b_X6_value_226 b_X6_value_227
    by_cases c8 : 8 ≤ d
    · rw [if_pos c8, if_pos ((nI_8 hd).mpr c8), ck_t (.inl rfl)]; exact ⟨M, rfl, C, h6⟩
    rw [if_neg c8, if_neg (fun z => c8 ((nI_8 hd).mp z)), ck_t (C_6 W C), C_take W C h6 hk (by omega), if_pos rfl, bd_S, if_neg (by decide), ck_t (C_6 W C1), nI_1]
    have hk1 := H k hk (by omega)
    refine CR_sh (j := k + 1) (CR_sq (IH 4 (k + 1) (d + 1) (at' r (k + 1) M) (by decide) C1 at_k hk1 (by omega)) (fun M1 C => ⟨M1, ck_t (.inl rfl), C, rfl⟩) (fun es M1 e he C2 h2 => ?_))
    rw [ck_t (C_6 W C2)]
    have he2 := (FP_e ((FP_Px H n 4 (k + 1) (d + 1) hk1).1 (by decide)) he).1
    have q := CR_tk W C2 h2 he2 (a := 26) (by decide)
    rw [C_take W C2 h2 he2 (by decide)] at q ⊢
    by_cases c : g e = 26
    · rw [if_pos c] at q ⊢
      rw [bd_S, if_neg (by decide), ck_t (.inr rfl)]; exact q
    · rw [if_neg c] at q ⊢
      rw [bd_S, if_pos rfl, ck_t (.inl rfl)]; exact q
  rw [if_neg c, if_neg (fun z => c (s21.mp z))]; clear c s21
  have e228 : (g k = 23 ∨ g k = 24) → CRl Z r p o M0 M (if 8 ≤ d then ft (k + 1) else sq (tk1 g 25 (k + 1)) fun k1 => sq (Px g n 4 k1 (d + 1)) fun k2 => sq (tk1 g 30 k2) fun k3 => sq (Px g n 4 k3 (d + 1)) fun k4 => sq (tk1 g 26 k4) (em (g k, k))) (b_X6_value_228 Z F M r (nI d) (some (Z (g k)))) := fun c => by
    unfold b_X6_value_228 b_X6_value_296 b_X6_value_297
    have hk1 := H k hk (by omega)
    rw [ck_t (C_6 W C), C_take W C h6 hk (by omega), if_pos rfl, bd_S, if_neg (show ¬ (1 : Int32) = 0 by decide)]
    by_cases c8 : 8 ≤ d
    · rw [if_pos c8, if_pos ((nI_8 hd).mpr c8)]
      obtain ⟨M2, a1, a2, a3⟩ := C_A3 W (c := g k) (F := F) hg _ C1
      exact ⟨M2, a1, a2, a3.trans at_k⟩
    rw [if_neg c8, if_neg (fun z => c8 ((nI_8 hd).mp z)), ck_t (C_6 W C1), nI_1]
    refine CR_sh (j := k + 1) (CR_sq (CR_tk W C1 at_k hk1 (by decide)) (C_A3 W hg) (fun es M1 e he C2 h2 => ?_))
    have he2 : e ≤ K := by
      obtain ⟨a1, _, a3⟩ := tk1_k he
      subst a1
      exact H _ hk1 (by omega)
    rw [ck_t (C_6 W C2)]
    refine CR_sq (IH 4 e (d + 1) M1 (by decide) C2 h2 he2 (by omega)) (C_A3 W hg) (fun es3 M3 e3 he3 C3 h3 => ?_)
    have he3' := (FP_e ((FP_Px H n 4 e (d + 1) he2).1 (by decide)) he3).1
    rw [ck_t (C_6 W C3)]
    refine CR_sq (CR_tk W C3 h3 he3' (by decide)) (C_A3 W hg) (fun es4 M4 e4 he4 C4 h4 => ?_)
    have he4' : e4 ≤ K := by
      obtain ⟨a1, _, a3⟩ := tk1_k he4
      subst a1
      exact H _ he3' (by omega)
    rw [ck_t (C_6 W C4)]
    refine CR_sq (IH 4 e4 (d + 1) M4 (by decide) C4 h4 he4' (by omega)) (C_A3 W hg) (fun es5 M5 e5 he5 C5 h5 => ?_)
    have he5' := (FP_e ((FP_Px H n 4 e4 (d + 1) he4').1 (by decide)) he5).1
    rw [ck_t (C_6 W C5)]
    refine CR_sq (CR_tk W C5 h5 he5' (by decide)) (C_A3 W hg) (fun es6 M6 e6 he6 C6 h6 => ?_)
    have he6' : e6 ≤ K := by
      obtain ⟨a1, _, a3⟩ := tk1_k he6
      subst a1
      exact H _ he5' (by omega)
    exact CR_v303 W C6 h6 he6' (by omega)
  by_cases c : g k = 23 ∨ g k = 24
  · rw [if_pos c]
    by_cases d0 : g k = 23
    · rw [if_pos (s22.mpr d0)]; exact e228 c
    rw [if_neg (fun z => d0 (s22.mp z)), if_pos (s23.mpr (by omega))]; exact e228 c
  rw [if_neg c, if_neg (fun z => c (.inl (s22.mp z))), if_neg (fun z => c (.inr (s23.mp z)))]
  exact ⟨M, rfl, C, h6⟩
/-- tests and sums: the class's recursion says what Px says -/
theorem C_Px {Z g ps vs : Nat → Nat} {K r p o : Nat} {M0 : gMem} (W : CWd Z g ps vs K r p o M0) : ∀ n j k d M, j < 7 → CI r o M0 M → mI M r 6 = nI k → k ≤ K → d ≤ 8 → CRl Z r p o M0 M (Px g n j k d) (fX6R Z n j M r (nI d))
  | 0, j, k, d, M, hj, C, h6, hk, hd => trivial
  | n + 1, j, k, d, M, hj, C, h6, hk, hd => by
    have IH := C_Px W n
    rw [Px]
    show CRl Z r p o M0 M _ (if j = 0 then fr_X6_test Z (fX6R Z n) M r (nI d) else if j = 1 then fr_X6_both Z (fX6R Z n) M r (nI d) else if j = 2 then fr_X6_single Z (fX6R Z n) M r (nI d) else if j = 3 then fr_X6_comparedSum Z (fX6R Z n) M r (nI d) else if j = 4 then fr_X6_sum Z (fX6R Z n) M r (nI d) else if j = 5 then fr_X6_product Z (fX6R Z n) M r (nI d) else if j = 6 then fr_X6_value Z (fX6R Z n) M r (nI d) else none)
    by_cases c : j = 0
    · rw [if_pos c, if_pos c]; exact C_test W IH C h6 hk hd
    rw [if_neg c, if_neg c]
    by_cases c1 : j = 1
    · rw [if_pos c1, if_pos c1]; exact C_both W IH C h6 hk hd
    rw [if_neg c1, if_neg c1]
    by_cases c2 : j = 2
    · rw [if_pos c2, if_pos c2]; exact C_single W IH C h6 hk hd
    rw [if_neg c2, if_neg c2]
    by_cases c3 : j = 3
    · rw [if_pos c3, if_pos c3]; exact C_comparedSum W IH C h6 hk hd
    rw [if_neg c3, if_neg c3]
    by_cases c4 : j = 4
    · rw [if_pos c4, if_pos c4]; exact C_sum W IH C h6 hk hd
    rw [if_neg c4, if_neg c4]
    by_cases c5 : j = 5
    · rw [if_pos c5, if_pos c5]; exact C_product W IH C h6 hk hd
    rw [if_neg c5, if_neg c5, if_pos (show j = 6 by omega)]
    exact C_value W IH C h6 hk hd

