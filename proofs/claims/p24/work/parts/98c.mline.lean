/-! ## Pure: the reference's lines of grounds and fishers -/
def MLl (vs : Nat → Nat) (K m t : Nat) (M0 M : gMem) (x : Option (Option (List (Nat × Nat)) × Nat)) (y : Option (Int32 × gMem)) : Prop :=
  match x with
  | none => True
  | some (none, e) => ∃ M1, y = some ((0 : Int32), M1) ∧ MI m t M0 M1 ∧ mI M1 m 9 = nI e ∧ e ≤ K
  | some (some es, e) => ∃ M1, y = some ((1 : Int32), M1) ∧ mQk m t 0 M0 M1 e ∧ e ≤ K ∧ si2 m M1 (mrn vs m t es M)
theorem ML_app {vs : Nat → Nat} {K m t : Nat} {M0 M M1 : gMem} {x : Option (Option (List (Nat × Nat)) × Nat)} {es : List (Nat × Nat)} {e : Nat} {f : Nat → Option (Option (List (Nat × Nat)) × Nat)} {y : Option (Int32 × gMem)} (ht : m + 7 ≤ t) (hx : x = some (some es, e)) (hs : si2 m M1 (mrn vs m t es M)) (h : MLl vs K m t M0 M1 (f e) y) : MLl vs K m t M0 M (sq x f) y := by
  subst hx
  show MLl vs K m t M0 M (match f e with
    | none => none
    | some (none, k1) => some (none, k1)
    | some (some es1, k1) => some (some (es ++ es1), k1)) y
  match f e, h with
  | none, _ => trivial
  | some (none, e1), h => exact h
  | some (some es1, e1), ⟨M2, k1, k2, k3, k4⟩ => exact ⟨M2, k1, k2, k3, by rw [mrn_app]; exact si2_tr k4 (si2_rn ht es1 hs)⟩
theorem ML_ft {vs : Nat → Nat} {K m t e : Nat} {M0 M M1 : gMem} {f : Nat → Option (Option (List (Nat × Nat)) × Nat)} {y : Option (Int32 × gMem)} (h : y = some ((0 : Int32), M1)) (C : MI m t M0 M1) (h9 : mI M1 m 9 = nI e) (he : e ≤ K) : MLl vs K m t M0 M (sq (ft e) f) y := ⟨M1, h, C, h9, he⟩
/-- a token -/
theorem ML_tk {g vs : Nat → Nat} {K m t : Nat} {M0 : gMem} (W : MWd g K m t M0) {a e : Nat} {M : gMem} {f : Nat → Option (Option (List (Nat × Nat)) × Nat)} {y : Option (Int32 × gMem)} {B : gMem → Option (Int32 × gMem)} (Q : mQk m t 0 M0 M e) (he : e ≤ K) (ha : a < 42) (hy : y = if g e = a then some ((1 : Int32), tk' m (e + 1) M) else some ((0 : Int32), M)) (hB : ∀ X, e + 1 ≤ K → mQk m t 0 M0 X (e + 1) → (∀ j, mI X t j = mI M t j) → MLl vs K m t M0 X (f (e + 1)) (B X)) : MLl vs K m t M0 M (sq (tk1 g a e) f) (bd y fun r1 M1 => if r1 = 0 then some ((0 : Int32), M1) else B M1) := by
  have ht := W.1.2.2
  by_cases c : g e = a
  · rw [if_pos c] at hy
    rw [hy, bd_S, if_neg (show ¬ (1 : Int32) = 0 by decide)]
    exact ML_app ht (show tk1 g a e = some (some [], e + 1) from if_pos c) si2_tk (hB _ (W.2.2.2.2 e he (by omega)) (mQk_tk ht Q) (fun j => wI_o (.inl (by omega))))
  · rw [if_neg c] at hy
    rw [show tk1 g a e = ft e from if_neg c]
    exact ML_ft (by rw [hy, bd_S, if_pos rfl]) Q.1 Q.2.1 he
theorem ro_Q {m t e i : Nat} {v : Int32} {M0 M : gMem} (ht : m + 7 ≤ t) (Q : mQk m t 0 M0 M e) : mQk m t 0 M0 (roM m i v M) e := by
  obtain ⟨C, h9, h10, ⟨L, l1, l2⟩, ⟨n, n1, n2⟩⟩ := Q
  refine ⟨MI_w C (.inr (.inl rfl)) ht, ?_, ?_, ⟨L, l1, ?_⟩, ⟨n, n1, ?_⟩⟩
  · unfold roM; rw [wI_o (.inl (by omega))]; exact h9
  · unfold roM; rw [wI_o (.inl (by omega))]; exact h10
  · unfold roM; rw [wI_o (.inl (by omega))]; exact l2
  · unfold roM; rw [wI_o (.inl (by omega))]; exact n2
theorem ms_ro {vs : Nat → Nat} {m t c i : Nat} {M : gMem} (h : (51 ≤ c ∧ c ≤ 63 ∧ c ≠ 53 ∧ c ≠ 54) ∨ 1000 ≤ c) : mst1 vs m t c i M = roM m i (nI (if 1000 ≤ c then 6 else c - 50)) M := by
  unfold mst1
  rw [if_neg (by omega), if_neg (by omega), if_neg (by omega), if_neg (by omega), if_neg (by omega), if_neg (by omega), if_neg (by omega), if_neg (by omega)]
  by_cases c1 : 1000 ≤ c
  · rw [if_pos c1, if_pos c1]
  · rw [if_neg c1, if_neg c1, if_pos (by omega)]
