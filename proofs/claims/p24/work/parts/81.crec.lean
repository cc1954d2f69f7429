/-! ## Pure: the class's tests and sums say what Px says -/
theorem gSw_0 : ∀ c, c < 45 → (gSw c = 5 ↔ c = 20) ∧ (gSw c = 6 ↔ c = 27) ∧ (gSw c = 7 ↔ c = 19) ∧ (gSw c = 8 ↔ c = 35) ∧ (gSw c = 9 ↔ c = 36) ∧ (gSw c = 10 ↔ c = 37) ∧ (gSw c = 11 ↔ c = 38) ∧ (gSw c = 12 ↔ c = 39) := by decide +kernel
theorem gSw_1 : ∀ c, c < 45 → (gSw c = 13 ↔ c = 41) ∧ (gSw c = 14 ↔ c = 15) ∧ (gSw c = 15 ↔ c = 16) ∧ (gSw c = 16 ↔ c = 17) ∧ (gSw c = 17 ↔ c = 4) ∧ (gSw c = 18 ↔ c = 2) ∧ (gSw c = 19 ↔ c = 18) ∧ (gSw c = 20 ↔ c = 32) ∧ (gSw c = 21 ↔ c = 25) ∧ (gSw c = 22 ↔ c = 23) ∧ (gSw c = 23 ↔ c = 24) := by decide +kernel
def sim (r : Nat) (A B : gMem) : Prop := ∀ k, at' r k A = at' r k B
theorem sim_rn {Z : Nat → Nat} {r p o : Nat} {A B : gMem} (h : sim r A B) : ∀ a, sim r (rnE Z r p o a A) (rnE Z r p o a B)
  | [] => h
  | e :: t => fun k => by rw [rnE, rnE]; unfold stp2; rw [h e.2]
theorem sim_at {r j : Nat} {A : gMem} : sim r (at' r j A) A := fun k => at_at
theorem sim_tr {r : Nat} {A B C : gMem} (h1 : sim r A B) (h2 : sim r B C) : sim r A C := fun k => (h1 k).trans (h2 k)
theorem sim_s {r : Nat} {A B : gMem} (h1 : sim r A B) : sim r B A := fun k => (h1 k).symm
theorem sim_ad {Z : Nat → Nat} {r o c : Nat} {v : Int32} {A B : gMem} (ho : o + 86 ≤ r) (h : sim r A B) : sim r (adM Z o c v A) (adM Z o c v B) := fun k => by
  rw [← ad_at ho, ← ad_at ho, h k]
/-- from M the program's answer y is what x says -/
def CRl (Z : Nat → Nat) (r p o : Nat) (M0 M : gMem) (x : Option (Option (List (Nat × Nat)) × Nat)) (y : Option (Int32 × gMem)) : Prop :=
  match x with
  | none => True
  | some (none, e) => ∃ M1, y = some ((0 : Int32), M1) ∧ CI r o M0 M1 ∧ mI M1 r 6 = nI e
  | some (some es, e) => ∃ M1, y = some ((1 : Int32), M1) ∧ CI r o M0 M1 ∧ mI M1 r 6 = nI e ∧ sim r M1 (rnE Z r p o es M)
theorem CR_sq {Z : Nat → Nat} {r p o : Nat} {M0 M : gMem} {x : Option (Option (List (Nat × Nat)) × Nat)} {f : Nat → Option (Option (List (Nat × Nat)) × Nat)} {y : Option (Int32 × gMem)} {A B : gMem → Option (Int32 × gMem)} (h : CRl Z r p o M0 M x y) (hA : ∀ M1, CI r o M0 M1 → ∃ M2, A M1 = some ((0 : Int32), M2) ∧ CI r o M0 M2 ∧ mI M2 r 6 = mI M1 r 6) (hB : ∀ es M1 e, x = some (some es, e) → CI r o M0 M1 → mI M1 r 6 = nI e → CRl Z r p o M0 M1 (f e) (B M1)) : CRl Z r p o M0 M (sq x f) (bd y fun r1 M1 => if r1 = 0 then A M1 else B M1) := by
  match x, h, hB with
  | none, _, _ => trivial
  | some (none, e), ⟨M1, h1, h2, h3⟩, _ =>
    obtain ⟨M2, a1, a2, a3⟩ := hA M1 h2
    exact ⟨M2, by rw [h1, bd_S, if_pos rfl, a1], a2, a3.trans h3⟩
  | some (some es, e), ⟨M1, h1, h2, h3, h4⟩, hB =>
    have key := hB es M1 e rfl h2 h3
    rw [h1, bd_S, if_neg (by decide)]
    show CRl Z r p o M0 M (match f e with
      | none => none
      | some (none, k1) => some (none, k1)
      | some (some es1, k1) => some (some (es ++ es1), k1)) (B M1)
    match f e, key with
    | none, _ => trivial
    | some (none, e1), key => exact key
    | some (some es1, e1), ⟨M2, k1, k2, k3, k4⟩ => exact ⟨M2, k1, k2, k3, by rw [rnE_app]; exact sim_tr k4 (sim_rn h4 es1)⟩
theorem CR_A {r o : Nat} {M0 : gMem} : ∀ M1, CI r o M0 M1 → ∃ M2, (some ((0 : Int32), M1) : Option (Int32 × gMem)) = some ((0 : Int32), M2) ∧ CI r o M0 M2 ∧ mI M2 r 6 = mI M1 r 6 := fun M1 C => ⟨M1, rfl, C, rfl⟩
theorem CR_tk {Z g ps vs : Nat → Nat} {K r p o : Nat} {M0 : gMem} (W : CWd Z g ps vs K r p o M0) {k a : Nat} {M : gMem} (C : CI r o M0 M) (h6 : mI M r 6 = nI k) (hk : k ≤ K) (ha : a < 42) : CRl Z r p o M0 M (tk1 g a k) (f_X6_take M r (some (Z a))) := by
  rw [C_take W C h6 hk ha]
  unfold tk1
  by_cases c : g k = a
  · rw [if_pos c, if_pos c]; exact ⟨_, rfl, CI_at (W_ho W).2 C, at_k, sim_at⟩
  · rw [if_neg c, if_neg c]; exact ⟨M, rfl, C, h6⟩
theorem C_adS {Z g ps vs : Nat → Nat} {K r p o : Nat} {M0 : gMem} (W : CWd Z g ps vs K r p o M0) {β : Type} {c : Nat} {v : Int32} {M : gMem} (C : CI r o M0 M) {kk : gMem → Option β} (hc : c < 45) : (dr (mR M r 2) fun a8 => ck (mT M a8 = 7) <| dr (mR M a8 10) fun a11 => ck (mT M a11 = 8) <| bd (f_X9_add Z M a11 (some (Z c)) v) fun _ M10 => kk M10) = kk (adM Z o c v M) := by
  obtain ⟨B, T⟩ := W_o W C
  have L := B.2.2.2.1
  obtain ⟨a, a1, a2⟩ := C.2.2.2.2.2.2.2.2.2.1
  rw [dr_s B.1.2.2.1, ck_t (show mT M o = 7 from cT0 (sg := mI M) L), show mR M o 10 = some (o + 5) from cR0_10 (sg := mI M) L, dr_S, ck_t (show mT M (o + 5) = 8 from cT5 (sg := mI M) L), c_sadd L W.2.2.2.1 hc a1 a2, bd_S]
theorem C_6 {Z g ps vs : Nat → Nat} {K r p o : Nat} {M0 : gMem} (W : CWd Z g ps vs K r p o M0) {M : gMem} (C : CI r o M0 M) : mT M r = 6 := (W_o W C).1.1.1
theorem stp_op {Z : Nat → Nat} {r p o c i : Nat} {M : gMem} (hc : c = 20 ∨ c = 21 ∨ c = 22 ∨ (31 ≤ c ∧ c ≤ 39)) : stp1 Z r p o c i M = adM Z o c 0 M := by
  unfold stp1
  rw [if_neg (by omega), if_neg (by omega), if_neg (by omega), if_neg (by omega), if_pos (by omega)]
theorem stp_vl {Z : Nat → Nat} {r p o c i : Nat} {M : gMem} (hc : c = 15 ∨ c = 44 ∨ c = 23 ∨ c = 24) : stp1 Z r p o c i M = adM Z o c (mI M r 8) M := by
  unfold stp1
  rw [if_neg (by omega), if_neg (by omega), if_neg (by omega), if_pos (by omega)]
/-- an operation is added -/
theorem CR_op {Z g ps vs : Nat → Nat} {K r p o : Nat} {M0 : gMem} (W : CWd Z g ps vs K r p o M0) {k c i : Nat} {M : gMem} (C : CI r o M0 M) (h6 : mI M r 6 = nI k) (hk : k ≤ K) (hc : c = 20 ∨ c = 21 ∨ c = 22 ∨ (31 ≤ c ∧ c ≤ 39)) : CRl Z r p o M0 M (em (c, i) k) (some ((1 : Int32), adM Z o c 0 M)) := by
  have ho := (W_ho W).2
  refine ⟨_, rfl, CI_ad ho C, by rw [ad_6 ho]; exact h6, ?_⟩
  show sim r _ (stp2 Z r p o (c, i) M)
  unfold stp2
  rw [stp_op hc]
  exact sim_ad ho (sim_s sim_at)
theorem CR_vl {Z g ps vs : Nat → Nat} {K r p o : Nat} {M0 : gMem} (W : CWd Z g ps vs K r p o M0) {k c i : Nat} {M : gMem} (C : CI r o M0 M) (h6 : mI M r 6 = nI k) (hk : k ≤ K) (hc : c = 15 ∨ c = 44 ∨ c = 23 ∨ c = 24) : CRl Z r p o M0 M (em (c, i) k) (some ((1 : Int32), adM Z o c (mI M r 8) M)) := by
  have ho := (W_ho W).2
  refine ⟨_, rfl, CI_ad ho C, by rw [ad_6 ho]; exact h6, ?_⟩
  show sim r _ (stp2 Z r p o (c, i) M)
  unfold stp2
  rw [stp_vl hc, show mI (at' r i M) r 8 = mI M r 8 from wI_o (.inr (by omega))]
  exact sim_ad ho (sim_s sim_at)
/-- a loop -/
theorem CR_lp {Z g ps vs : Nat → Nat} {K r p o : Nat} {M0 : gMem} (W : CWd Z g ps vs K r p o M0) {a b : Nat} {f : Nat → Option (Option (List (Nat × Nat)) × Nat)} {BB : gMem → Int32 → Option ((gMem × Int32) ⊕ (Int32 × gMem))} (ha : a = 21 ∨ a = 22 ∨ (31 ≤ a ∧ a ≤ 34)) (hb : b = 21 ∨ b = 22 ∨ (31 ≤ b ∧ b ≤ 34)) (hF : ∀ e, e ≤ K → FP g K e 1 0 1 1 (f e)) (h1 : ∀ M k c, CI r o M0 M → mI M r 6 = nI k → k ≤ K → c ≤ k → (g k = a ∨ g k = b) → c < 400 → match f (k + 1) with
    | none => True
    | some (none, e) => ∃ M1, BB M (nI c) = some (.inr ((0 : Int32), M1)) ∧ CI r o M0 M1 ∧ mI M1 r 6 = nI e
    | some (some es, e) => ∃ M1, BB M (nI c) = some (.inl (adM Z o (g k) 0 M1, nI (c + 1))) ∧ CI r o M0 M1 ∧ mI M1 r 6 = nI e ∧ sim r M1 (rnE Z r p o es M)) (h2 : ∀ M k c, CI r o M0 M → mI M r 6 = nI k → k ≤ K → ¬ (g k = a ∨ g k = b) → c ≤ 400 → BB M (nI c) = some (.inr ((1 : Int32), M))) : ∀ m k c M, CI r o M0 M → mI M r 6 = nI k → k ≤ K → c ≤ k → CRl Z r p o M0 M (lpS g a b f m k) (lp (fun q => BB q.1 q.2) (M, nI c))
  | 0, _, _, _, _, _, _, _ => trivial
  | m + 1, k, c, M, C, h6, hk, hc => by
    have ho := (W_ho W).2
    have hK := W.2.2.2.2.2.1
    rw [lpS]
    by_cases q : g k = a ∨ g k = b
    · rw [if_pos q]
      have hk1 := W.2.2.2.2.2.2 k hk (by rcases q with h | h <;> omega)
      have key := h1 M k c C h6 hk hc q (by omega)
      have fe := hF (k + 1) hk1
      unfold sq
      match f (k + 1), key, fe with
      | none, _, _ => trivial
      | some (none, e), ⟨M1, k1, k2, k3⟩, _ =>
        exact ⟨M1, lp_out k1, k2, k3⟩
      | some (some es, e), ⟨M1, k1, k2, k3, k4⟩, fe =>
        have cb : g k = 20 ∨ g k = 21 ∨ g k = 22 ∨ (31 ≤ g k ∧ g k ≤ 39) := by rcases q with h | h <;> omega
        have hM2 : mI (adM Z o (g k) 0 M1) r 6 = nI e := by rw [ad_6 ho]; exact k3
        have key2 := CR_lp W ha hb hF h1 h2 m e (c + 1) (adM Z o (g k) 0 M1) (CI_ad ho k2) hM2 fe.1 (by have := fe.2.1; omega)
        have e1 : lp (fun q => BB q.1 q.2) (M, nI c) = lp (fun q => BB q.1 q.2) (adM Z o (g k) 0 M1, nI (c + 1)) := lp_in k1
        rw [e1]
        have sm : sim r (adM Z o (g k) 0 M1) (stp2 Z r p o (g k, k) (rnE Z r p o es M)) := by
          unfold stp2
          rw [stp_op cb]
          exact sim_ad ho (sim_tr k4 (sim_s sim_at))
        show CRl Z r p o M0 M (match sq (em (g k, k) e) (lpS g a b f m) with
          | none => none
          | some (none, k1) => some (none, k1)
          | some (some es1, k1) => some (some (es ++ es1), k1)) _
        show CRl Z r p o M0 M (match (match lpS g a b f m e with
          | none => none
          | some (none, k1) => some (none, k1)
          | some (some es1, k1) => some (some ([(g k, k)] ++ es1), k1)) with
          | none => none
          | some (none, k1) => some (none, k1)
          | some (some es1, k1) => some (some (es ++ es1), k1)) _
        match lpS g a b f m e, key2 with
        | none, _ => trivial
        | some (none, e1), key2 => exact key2
        | some (some es1, e1), ⟨M2, j1, j2, j3, j4⟩ =>
          refine ⟨M2, j1, j2, j3, ?_⟩
          rw [rnE_app, rnE_app]
          exact sim_tr j4 (sim_rn sm es1)
    · rw [if_neg q]
      exact ⟨M, lp_out (h2 M k c C h6 hk q (by omega)), C, h6, fun _ => rfl⟩

