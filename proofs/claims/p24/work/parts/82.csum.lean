/-- what holds from behind a taken token holds from ahead of it -/
theorem CR_sh {Z : Nat → Nat} {r p o j : Nat} {M0 M : gMem} {x : Option (Option (List (Nat × Nat)) × Nat)} {y : Option (Int32 × gMem)} (h : CRl Z r p o M0 (at' r j M) x y) : CRl Z r p o M0 M x y := by
  match x, h with
  | none, _ => trivial
  | some (none, e), h => exact h
  | some (some es, e), ⟨M1, k1, k2, k3, k4⟩ => exact ⟨M1, k1, k2, k3, sim_tr k4 (sim_rn sim_at es)⟩
theorem C_test {Z g ps vs : Nat → Nat} {K r p o : Nat} {M0 : gMem} (W : CWd Z g ps vs K r p o M0) {n : Nat} {F : Nat → gMem → Nat → Int32 → Option (Int32 × gMem)} (IH : ∀ j k d M, j < 7 → CI r o M0 M → mI M r 6 = nI k → k ≤ K → d ≤ 8 → CRl Z r p o M0 M (Px g n j k d) (F j M r (nI d))) {k d : Nat} {M : gMem} (C : CI r o M0 M) (h6 : mI M r 6 = nI k) (hk : k ≤ K) (hd : d ≤ 8) : CRl Z r p o M0 M (sq (Px g n 1 k d) (lpS g 22 22 (fun k => Px g n 1 k d) 401)) (fr_X6_test Z F M r (nI d)) := by
  have hK := W.2.2.2.2.2.1
  have H := W.2.2.2.2.2.2
  unfold fr_X6_test b_X6_test_0 lp_X6_test_12
  rw [ck_t (C_6 W C)]
  refine CR_sq (IH 1 k d M (by decide) C h6 hk hd) CR_A (fun es M1 e he C1 h1 => ?_)
  refine CR_lp (a := 22) (b := 22) (BB := fun M c => bb_X6_test_12 Z F M r (nI d) c) W (by decide) (by decide) (fun e he => (FP_Px H n 1 e d he).1 (by decide)) (fun M k c C h6 hk hc hg c4 => ?_) (fun M k c C h6 hk hg c4 => ?_) 401 e 0 M1 C1 h1 (FP_e ((FP_Px H n 1 k d hk).1 (by decide)) he).1 (Nat.zero_le _)
  · have q1 : ¬ (400 : Int32) ≤ nI c := fun z => by have := (nI_leI (a := 400) (by omega) (by omega)).mp z; omega
    have hg' : g k = 22 := hg.elim id id
    have hk1 := H k hk (by omega)
    have ih := IH 1 (k + 1) d (at' r (k + 1) M) (by decide) (CI_at (W_ho W).2 C) at_k hk1 hd
    unfold bb_X6_test_12
    rw [if_neg q1, ck_t (C_6 W C), C_take W C h6 hk (by decide), if_pos hg', bd_S, if_neg (by decide), ck_t (C_6 W (CI_at (W_ho W).2 C)), hg']
    match Px g n 1 (k + 1) d, ih with
    | none, _ => trivial
    | some (none, e), ⟨M1, k1, k2, k3⟩ =>
      exact ⟨M1, by rw [k1, bd_S, if_pos rfl]; rfl, k2, k3⟩
    | some (some es, e), ⟨M1, k1, k2, k3, k4⟩ =>
      exact ⟨M1, by rw [k1, bd_S, if_neg (by decide), ck_t (C_6 W k2), C_adS W k2 (by decide), nI_1], k2, k3, sim_tr k4 (sim_rn sim_at es)⟩
  · unfold bb_X6_test_12 b_X6_test_59
    by_cases q1 : (400 : Int32) ≤ nI c
    · rw [if_pos q1]; rfl
    · rw [if_neg q1, ck_t (C_6 W C), C_take W C h6 hk (by decide), if_neg (fun z => hg (.inl z)), bd_S, if_pos rfl]; rfl
theorem C_both {Z g ps vs : Nat → Nat} {K r p o : Nat} {M0 : gMem} (W : CWd Z g ps vs K r p o M0) {n : Nat} {F : Nat → gMem → Nat → Int32 → Option (Int32 × gMem)} (IH : ∀ j k d M, j < 7 → CI r o M0 M → mI M r 6 = nI k → k ≤ K → d ≤ 8 → CRl Z r p o M0 M (Px g n j k d) (F j M r (nI d))) {k d : Nat} {M : gMem} (C : CI r o M0 M) (h6 : mI M r 6 = nI k) (hk : k ≤ K) (hd : d ≤ 8) : CRl Z r p o M0 M (sq (Px g n 2 k d) (lpS g 21 21 (fun k => Px g n 2 k d) 401)) (fr_X6_both Z F M r (nI d)) := by
  have hK := W.2.2.2.2.2.1
  have H := W.2.2.2.2.2.2
  unfold fr_X6_both b_X6_both_0 lp_X6_both_12
  rw [ck_t (C_6 W C)]
  refine CR_sq (IH 2 k d M (by decide) C h6 hk hd) CR_A (fun es M1 e he C1 h1 => ?_)
  refine CR_lp (a := 21) (b := 21) (BB := fun M c => bb_X6_both_12 Z F M r (nI d) c) W (by decide) (by decide) (fun e he => (FP_Px H n 2 e d he).1 (by decide)) (fun M k c C h6 hk hc hg c4 => ?_) (fun M k c C h6 hk hg c4 => ?_) 401 e 0 M1 C1 h1 (FP_e ((FP_Px H n 2 k d hk).1 (by decide)) he).1 (Nat.zero_le _)
  · have q1 : ¬ (400 : Int32) ≤ nI c := fun z => by have := (nI_leI (a := 400) (by omega) (by omega)).mp z; omega
    have hg' : g k = 21 := hg.elim id id
    have hk1 := H k hk (by omega)
    have ih := IH 2 (k + 1) d (at' r (k + 1) M) (by decide) (CI_at (W_ho W).2 C) at_k hk1 hd
    unfold bb_X6_both_12
    rw [if_neg q1, ck_t (C_6 W C), C_take W C h6 hk (by decide), if_pos hg', bd_S, if_neg (by decide), ck_t (C_6 W (CI_at (W_ho W).2 C)), hg']
    match Px g n 2 (k + 1) d, ih with
    | none, _ => trivial
    | some (none, e), ⟨M1, k1, k2, k3⟩ =>
      exact ⟨M1, by rw [k1, bd_S, if_pos rfl]; rfl, k2, k3⟩
    | some (some es, e), ⟨M1, k1, k2, k3, k4⟩ =>
      exact ⟨M1, by rw [k1, bd_S, if_neg (by decide), ck_t (C_6 W k2), C_adS W k2 (by decide), nI_1], k2, k3, sim_tr k4 (sim_rn sim_at es)⟩
  · unfold bb_X6_both_12 b_X6_both_59
    by_cases q1 : (400 : Int32) ≤ nI c
    · rw [if_pos q1]; rfl
    · rw [if_neg q1, ck_t (C_6 W C), C_take W C h6 hk (by decide), if_neg (fun z => hg (.inl z)), bd_S, if_pos rfl]; rfl
theorem C_sum39 {Z g ps vs : Nat → Nat} {K r p o : Nat} {M0 : gMem} (W : CWd Z g ps vs K r p o M0) {n : Nat} {F : Nat → gMem → Nat → Int32 → Option (Int32 × gMem)} (IH : ∀ j k d M, j < 7 → CI r o M0 M → mI M r 6 = nI k → k ≤ K → d ≤ 8 → CRl Z r p o M0 M (Px g n j k d) (F j M r (nI d))) {k d c : Nat} {M : gMem} (C : CI r o M0 M) (h6 : mI M r 6 = nI k) (hk : k ≤ K) (hd : d ≤ 8) (hg : g k = 31 ∨ g k = 32) : match Px g n 5 (k + 1) d with
    | none => True
    | some (none, e) => ∃ M1, b_X6_sum_39 Z F M r (nI d) (nI c) = some (.inr ((0 : Int32), M1)) ∧ CI r o M0 M1 ∧ mI M1 r 6 = nI e
    | some (some es, e) => ∃ M1, b_X6_sum_39 Z F M r (nI d) (nI c) = some (.inl (adM Z o (g k) 0 M1, nI (c + 1))) ∧ CI r o M0 M1 ∧ mI M1 r 6 = nI e ∧ sim r M1 (rnE Z r p o es M) := by
  have hK := W.2.2.2.2.2.1
  have H := W.2.2.2.2.2.2
  have hk1 := H k hk (by omega)
  have ih := IH 5 (k + 1) d (at' r (k + 1) M) (by decide) (CI_at (W_ho W).2 C) at_k hk1 hd
  unfold b_X6_sum_39 b_X6_sum_60
  rw [ck_t (C_6 W C), C_sign W C h6 hk, bd_S, ck_t (C_6 W C), C_take W C h6 hk (by omega), if_pos rfl, bd_S, if_neg (by decide), ck_t (C_6 W (CI_at (W_ho W).2 C))]
  match Px g n 5 (k + 1) d, ih with
  | none, _ => trivial
  | some (none, e), ⟨M1, k1, k2, k3⟩ =>
    exact ⟨M1, by rw [k1, bd_S, if_pos rfl]; rfl, k2, k3⟩
  | some (some es, e), ⟨M1, k1, k2, k3, k4⟩ =>
    exact ⟨M1, by rw [k1, bd_S, if_neg (by decide), ck_t (C_6 W k2), C_adS W k2 (by omega), nI_1], k2, k3, sim_tr k4 (sim_rn sim_at es)⟩
theorem C_sum {Z g ps vs : Nat → Nat} {K r p o : Nat} {M0 : gMem} (W : CWd Z g ps vs K r p o M0) {n : Nat} {F : Nat → gMem → Nat → Int32 → Option (Int32 × gMem)} (IH : ∀ j k d M, j < 7 → CI r o M0 M → mI M r 6 = nI k → k ≤ K → d ≤ 8 → CRl Z r p o M0 M (Px g n j k d) (F j M r (nI d))) {k d : Nat} {M : gMem} (C : CI r o M0 M) (h6 : mI M r 6 = nI k) (hk : k ≤ K) (hd : d ≤ 8) : CRl Z r p o M0 M (sq (Px g n 5 k d) (lpS g 31 32 (fun k => Px g n 5 k d) 401)) (fr_X6_sum Z F M r (nI d)) := by
  have hK := W.2.2.2.2.2.1
  have H := W.2.2.2.2.2.2
  have zi : ∀ k c, c < 45 → (some (Z (g k)) = some (Z c) ↔ g k = c) := fun k c hc => ⟨fun e => W.2.2.2.1 _ _ (W.2.2.2.2.1 k) hc (Option.some.inj e), fun e => by rw [e]⟩
  unfold fr_X6_sum b_X6_sum_0 lp_X6_sum_12
  rw [ck_t (C_6 W C)]
  refine CR_sq (IH 5 k d M (by decide) C h6 hk hd) CR_A (fun es M1 e he C1 h1 => ?_)
  refine CR_lp (a := 31) (b := 32) (BB := fun M c => bb_X6_sum_12 Z F M r (nI d) c) W (by decide) (by decide) (fun e he => (FP_Px H n 5 e d he).1 (by decide)) (fun M k c C h6 hk hc hg c4 => ?_) (fun M k c C h6 hk hg c4 => ?_) 401 e 0 M1 C1 h1 (FP_e ((FP_Px H n 5 k d hk).1 (by decide)) he).1 (Nat.zero_le _)
  · have q1 : ¬ (400 : Int32) ≤ nI c := fun z => by have := (nI_leI (a := 400) (by omega) (by omega)).mp z; omega
    have key := C_sum39 W IH (c := c) C h6 hk hd hg
    have e1 : bb_X6_sum_12 Z F M r (nI d) (nI c) = b_X6_sum_39 Z F M r (nI d) (nI c) := by
      unfold bb_X6_sum_12
      rw [if_neg q1, ck_t (C_6 W C), C_sign W C h6 hk, bd_S]
      by_cases c1 : g k = 31
      · rw [if_pos ((zi k 31 (by decide)).mpr c1)]
      · rw [if_neg (fun z => c1 ((zi k 31 (by decide)).mp z)), ck_t (C_6 W C), C_sign W C h6 hk, bd_S, if_pos ((zi k 32 (by decide)).mpr (hg.resolve_left c1))]
    rw [e1]
    exact key
  · unfold bb_X6_sum_12 b_X6_sum_80
    by_cases q1 : (400 : Int32) ≤ nI c
    · rw [if_pos q1]; rfl
    · rw [if_neg q1, ck_t (C_6 W C), C_sign W C h6 hk, bd_S, if_neg (fun z => hg (.inl ((zi k 31 (by decide)).mp z))), ck_t (C_6 W C), C_sign W C h6 hk, bd_S, if_neg (fun z => hg (.inr ((zi k 32 (by decide)).mp z)))]; rfl
theorem C_product39 {Z g ps vs : Nat → Nat} {K r p o : Nat} {M0 : gMem} (W : CWd Z g ps vs K r p o M0) {n : Nat} {F : Nat → gMem → Nat → Int32 → Option (Int32 × gMem)} (IH : ∀ j k d M, j < 7 → CI r o M0 M → mI M r 6 = nI k → k ≤ K → d ≤ 8 → CRl Z r p o M0 M (Px g n j k d) (F j M r (nI d))) {k d c : Nat} {M : gMem} (C : CI r o M0 M) (h6 : mI M r 6 = nI k) (hk : k ≤ K) (hd : d ≤ 8) (hg : g k = 33 ∨ g k = 34) : match Px g n 6 (k + 1) d with
    | none => True
    | some (none, e) => ∃ M1, b_X6_product_39 Z F M r (nI d) (nI c) = some (.inr ((0 : Int32), M1)) ∧ CI r o M0 M1 ∧ mI M1 r 6 = nI e
    | some (some es, e) => ∃ M1, b_X6_product_39 Z F M r (nI d) (nI c) = some (.inl (adM Z o (g k) 0 M1, nI (c + 1))) ∧ CI r o M0 M1 ∧ mI M1 r 6 = nI e ∧ sim r M1 (rnE Z r p o es M) := by
  have hK := W.2.2.2.2.2.1
  have H := W.2.2.2.2.2.2
  have hk1 := H k hk (by omega)
  have ih := IH 6 (k + 1) d (at' r (k + 1) M) (by decide) (CI_at (W_ho W).2 C) at_k hk1 hd
  unfold b_X6_product_39 b_X6_product_60
  rw [ck_t (C_6 W C), C_sign W C h6 hk, bd_S, ck_t (C_6 W C), C_take W C h6 hk (by omega), if_pos rfl, bd_S, if_neg (by decide), ck_t (C_6 W (CI_at (W_ho W).2 C))]
  match Px g n 6 (k + 1) d, ih with
  | none, _ => trivial
  | some (none, e), ⟨M1, k1, k2, k3⟩ =>
    exact ⟨M1, by rw [k1, bd_S, if_pos rfl]; rfl, k2, k3⟩
  | some (some es, e), ⟨M1, k1, k2, k3, k4⟩ =>
    exact ⟨M1, by rw [k1, bd_S, if_neg (by decide), ck_t (C_6 W k2), C_adS W k2 (by omega), nI_1], k2, k3, sim_tr k4 (sim_rn sim_at es)⟩
theorem C_product {Z g ps vs : Nat → Nat} {K r p o : Nat} {M0 : gMem} (W : CWd Z g ps vs K r p o M0) {n : Nat} {F : Nat → gMem → Nat → Int32 → Option (Int32 × gMem)} (IH : ∀ j k d M, j < 7 → CI r o M0 M → mI M r 6 = nI k → k ≤ K → d ≤ 8 → CRl Z r p o M0 M (Px g n j k d) (F j M r (nI d))) {k d : Nat} {M : gMem} (C : CI r o M0 M) (h6 : mI M r 6 = nI k) (hk : k ≤ K) (hd : d ≤ 8) : CRl Z r p o M0 M (sq (Px g n 6 k d) (lpS g 33 34 (fun k => Px g n 6 k d) 401)) (fr_X6_product Z F M r (nI d)) := by
  have hK := W.2.2.2.2.2.1
  have H := W.2.2.2.2.2.2
  have zi : ∀ k c, c < 45 → (some (Z (g k)) = some (Z c) ↔ g k = c) := fun k c hc => ⟨fun e => W.2.2.2.1 _ _ (W.2.2.2.2.1 k) hc (Option.some.inj e), fun e => by rw [e]⟩
  unfold fr_X6_product b_X6_product_0 lp_X6_product_12
  rw [ck_t (C_6 W C)]
  refine CR_sq (IH 6 k d M (by decide) C h6 hk hd) CR_A (fun es M1 e he C1 h1 => ?_)
  refine CR_lp (a := 33) (b := 34) (BB := fun M c => bb_X6_product_12 Z F M r (nI d) c) W (by decide) (by decide) (fun e he => (FP_Px H n 6 e d he).1 (by decide)) (fun M k c C h6 hk hc hg c4 => ?_) (fun M k c C h6 hk hg c4 => ?_) 401 e 0 M1 C1 h1 (FP_e ((FP_Px H n 6 k d hk).1 (by decide)) he).1 (Nat.zero_le _)
  · have q1 : ¬ (400 : Int32) ≤ nI c := fun z => by have := (nI_leI (a := 400) (by omega) (by omega)).mp z; omega
    have key := C_product39 W IH (c := c) C h6 hk hd hg
    have e1 : bb_X6_product_12 Z F M r (nI d) (nI c) = b_X6_product_39 Z F M r (nI d) (nI c) := by
      unfold bb_X6_product_12
      rw [if_neg q1, ck_t (C_6 W C), C_sign W C h6 hk, bd_S]
      by_cases c1 : g k = 33
      · rw [if_pos ((zi k 33 (by decide)).mpr c1)]
      · rw [if_neg (fun z => c1 ((zi k 33 (by decide)).mp z)), ck_t (C_6 W C), C_sign W C h6 hk, bd_S, if_pos ((zi k 34 (by decide)).mpr (hg.resolve_left c1))]
    rw [e1]
    exact key
  · unfold bb_X6_product_12 b_X6_product_80
    by_cases q1 : (400 : Int32) ≤ nI c
    · rw [if_pos q1]; rfl
    · rw [if_neg q1, ck_t (C_6 W C), C_sign W C h6 hk, bd_S, if_neg (fun z => hg (.inl ((zi k 33 (by decide)).mp z))), ck_t (C_6 W C), C_sign W C h6 hk, bd_S, if_neg (fun z => hg (.inr ((zi k 34 (by decide)).mp z)))]; rfl
theorem C_comparedSum {Z g ps vs : Nat → Nat} {K r p o : Nat} {M0 : gMem} (W : CWd Z g ps vs K r p o M0) {n : Nat} {F : Nat → gMem → Nat → Int32 → Option (Int32 × gMem)} (IH : ∀ j k d M, j < 7 → CI r o M0 M → mI M r 6 = nI k → k ≤ K → d ≤ 8 → CRl Z r p o M0 M (Px g n j k d) (F j M r (nI d))) {k d : Nat} {M : gMem} (C : CI r o M0 M) (h6 : mI M r 6 = nI k) (hk : k ≤ K) (hd : d ≤ 8) : CRl Z r p o M0 M (if 35 ≤ g k ∧ g k ≤ 39 then sq (Px g n 4 (k + 1) d) (em (g k, k)) else ft k) (fr_X6_comparedSum Z F M r (nI d)) := by
  have hK := W.2.2.2.2.2.1
  have H := W.2.2.2.2.2.2
  have hg := W.2.2.2.2.1 k
  obtain ⟨-, -, -, g8, g9, g10, g11, g12⟩ := gSw_0 (g k) hg
  have key : 35 ≤ g k ∧ g k ≤ 39 → CRl Z r p o M0 M (sq (Px g n 4 (k + 1) d) (em (g k, k))) (b_X6_comparedSum_48 Z F M r (nI d) (some (Z (g k)))) := fun c => by
    unfold b_X6_comparedSum_48 b_X6_comparedSum_64
    rw [ck_t (C_6 W C), C_take W C h6 hk (by omega), if_pos rfl, bd_S, if_neg (by decide), ck_t (C_6 W (CI_at (W_ho W).2 C))]
    have ih := IH 4 (k + 1) d (at' r (k + 1) M) (by decide) (CI_at (W_ho W).2 C) at_k (H k hk (by omega)) hd
    have e1 : CRl Z r p o M0 (at' r (k + 1) M) (sq (Px g n 4 (k + 1) d) (em (g k, k))) (bd (F 4 (at' r (k + 1) M) r (nI d)) fun r3 M3 => if r3 = 0 then some ((0 : Int32), M3) else ck (mT M3 r = 6) <| dr (mR M3 r 2) fun a6 => ck (mT M3 a6 = 7) <| dr (mR M3 a6 10) fun a9 => ck (mT M3 a9 = 8) <| bd (f_X9_add Z M3 a9 (some (Z (g k))) 0) fun _ M8 => some ((1 : Int32), M8)) :=
      CR_sq ih CR_A (fun es M1 e he C1 h1 => by
        rw [ck_t (C_6 W C1), C_adS W C1 (kk := fun M8 => some ((1 : Int32), M8)) hg]
        exact CR_op W C1 h1 (FP_e ((FP_Px H n 4 (k + 1) d (H k hk (by omega))).1 (by decide)) he).1 (by omega))
    exact CR_sh e1
  unfold fr_X6_comparedSum b_X6_comparedSum_0
  rw [ck_t (C_6 W C), C_sign W C h6 hk, bd_S, ordZ_e W.2.2.2.1 hg, dr_S]
  by_cases c : 35 ≤ g k ∧ g k ≤ 39
  · rw [if_pos c]
    by_cases c8 : g k = 35
    · rw [if_pos (g8.mpr c8)]; exact key c
    rw [if_neg (fun z => c8 (g8.mp z))]
    by_cases c9 : g k = 36
    · rw [if_pos (g9.mpr c9)]; exact key c
    rw [if_neg (fun z => c9 (g9.mp z))]
    by_cases c10 : g k = 37
    · rw [if_pos (g10.mpr c10)]; exact key c
    rw [if_neg (fun z => c10 (g10.mp z))]
    by_cases c11 : g k = 38
    · rw [if_pos (g11.mpr c11)]; exact key c
    rw [if_neg (fun z => c11 (g11.mp z))]
    by_cases c12 : g k = 39
    · rw [if_pos (g12.mpr c12)]; exact key c
    omega
  · rw [if_neg c, if_neg (fun z => c (by have := g8.mp z; omega)), if_neg (fun z => c (by have := g9.mp z; omega)), if_neg (fun z => c (by have := g10.mp z; omega)), if_neg (fun z => c (by have := g11.mp z; omega)), if_neg (fun z => c (by have := g12.mp z; omega))]
    exact ⟨M, rfl, C, h6⟩

