/-! ## Pure: the reference is made -/
theorem al_okg {g x n k : Nat} {M : gMem} (h : mT M x = g ∧ x < mN M) : mT (al x n k M) x = g ∧ x < mN (al x n k M) :=
  ⟨(show (if x = mN M then 20 else mT M x) = g from by rw [if_neg (by omega)]; exact h.1), Nat.lt_succ_of_lt h.2⟩
theorem al_sg {g x n k : Nat} {M : gMem} {K : gMem → Option (Unit × gMem)} (h : mT M x = g ∧ x < mN M) : (lw (nW M 20 n) fun M1 => ck (mT M1 x = g) <| lw (wR M1 x k (some (mN M))) K) = K (al x n k M) := by
  have e : mT (nW M 20 n) x = g := (show (if x = mN M then 20 else mT M x) = g from by rw [if_neg (by omega)]; exact h.1)
  rw [lw_S, ck_t e, lw_S]
  rfl
theorem alL_okg {g x : Nat} : ∀ (l : List (Nat × Nat)) (M : gMem), (mT M x = g ∧ x < mN M) → mT (alL x l M) x = g ∧ x < mN (alL x l M)
  | [], _, h => h
  | _ :: r, _, h => alL_okg r _ (al_okg h)
def stL : List (Nat × Nat) := [(40, 2), (8, 3), (64, 4), (8, 5), (8, 6), (8, 7), (8, 8), (8, 9), (8, 10), (6, 11), (6, 12), (6, 13), (8, 14), (8, 15), (6, 16), (400, 17)]
def moL : List (Nat × Nat) := [(401, 4), (401, 5), (401, 6), (401, 7), (401, 8)]
theorem stL_2 : ∀ j, j < 16 → (stL.getD j (0, 0)).1 = lenS (j + 1) ∧ (stL.getD j (0, 0)).2 = j + 2 := by decide
def stW (x m : Nat) (M : gMem) : gMem := wI (wR M x 18 (some m)) x 1 1
theorem X12_i {M : gMem} {x m : Nat} (h : mT M x = 11 ∧ x < mN M) : f_X12_init M x (some m) = some ((), alL x stL (stW x m M)) := by
  have h0 : mT (stW x m M) x = 11 ∧ x < mN (stW x m M) := h
  unfold f_X12_init b_X12_init_0
  rw [ck_t h.1, lw_S, lw_S]
  rw [show wI (wR M x 18 (some m)) x 1 1 = stW x m M from rfl]
  rw [al_sg h0]
  rw [al_sg (al_okg h0)]
  rw [al_sg (al_okg (al_okg h0))]
  rw [al_sg (al_okg (al_okg (al_okg h0)))]
  rw [al_sg (al_okg (al_okg (al_okg (al_okg h0))))]
  rw [al_sg (al_okg (al_okg (al_okg (al_okg (al_okg h0)))))]
  rw [al_sg (al_okg (al_okg (al_okg (al_okg (al_okg (al_okg h0))))))]
  rw [al_sg (al_okg (al_okg (al_okg (al_okg (al_okg (al_okg (al_okg h0)))))))]
  rw [al_sg (al_okg (al_okg (al_okg (al_okg (al_okg (al_okg (al_okg (al_okg h0))))))))]
  rw [al_sg (al_okg (al_okg (al_okg (al_okg (al_okg (al_okg (al_okg (al_okg (al_okg h0)))))))))]
  rw [al_sg (al_okg (al_okg (al_okg (al_okg (al_okg (al_okg (al_okg (al_okg (al_okg (al_okg h0))))))))))]
  rw [al_sg (al_okg (al_okg (al_okg (al_okg (al_okg (al_okg (al_okg (al_okg (al_okg (al_okg (al_okg h0)))))))))))]
  rw [al_sg (al_okg (al_okg (al_okg (al_okg (al_okg (al_okg (al_okg (al_okg (al_okg (al_okg (al_okg (al_okg h0))))))))))))]
  rw [al_sg (al_okg (al_okg (al_okg (al_okg (al_okg (al_okg (al_okg (al_okg (al_okg (al_okg (al_okg (al_okg (al_okg h0)))))))))))))]
  rw [al_sg (al_okg (al_okg (al_okg (al_okg (al_okg (al_okg (al_okg (al_okg (al_okg (al_okg (al_okg (al_okg (al_okg (al_okg h0))))))))))))))]
  rw [al_sg (al_okg (al_okg (al_okg (al_okg (al_okg (al_okg (al_okg (al_okg (al_okg (al_okg (al_okg (al_okg (al_okg (al_okg (al_okg h0)))))))))))))))]
  rfl
/-- below N only the row x changes -/
def upN (N x : Nat) (M X : gMem) : Prop := ∀ a, a < N → mT X a = mT M a ∧ mL X a = mL M a ∧ (a ≠ x → mR X a = mR M a ∧ mI X a = mI M a)
theorem upN_t {N x : Nat} {M X Y : gMem} (h : upN N x M X) (g : upN N x X Y) : upN N x M Y := fun a ha =>
  ⟨(g a ha).1.trans (h a ha).1, (g a ha).2.1.trans (h a ha).2.1, fun z => ⟨((g a ha).2.2 z).1.trans ((h a ha).2.2 z).1, ((g a ha).2.2 z).2.trans ((h a ha).2.2 z).2⟩⟩
theorem upN_l {N N' x : Nat} {M X : gMem} (h : upN N x M X) (g : N' ≤ N) : upN N' x M X := fun a ha => h a (by omega)
theorem upN_n {N x g l : Nat} {M : gMem} (h : N ≤ mN M) : upN N x M (nW M g l) := fun a ha =>
  ⟨if_neg (by omega), if_neg (by omega), fun _ => ⟨if_neg (by omega), if_neg (by omega)⟩⟩
theorem upN_R {N x y k : Nat} {v : Option Nat} {M : gMem} (h : y = x ∨ N ≤ y) : upN N x M (wR M y k v) := fun a ha =>
  ⟨rfl, rfl, fun z => ⟨by funext j; exact wR_n (.inl (by omega)), rfl⟩⟩
theorem upN_I {N x y k : Nat} {v : Int32} {M : gMem} (h : y = x ∨ N ≤ y) : upN N x M (wI M y k v) := fun a ha =>
  ⟨rfl, rfl, fun z => ⟨rfl, by funext j; exact wI_o (.inl (by omega))⟩⟩
theorem upN_L {N x y : Nat} {M : gMem} (l : List (Nat × Nat)) (hy : y < mN M) (hN : N ≤ mN M) (h : y = x ∨ N ≤ y) : upN N x M (alL y l M) := fun a ha => by
  obtain ⟨z1, z2, z3, z4, z5⟩ := (alL_f l M hy).2.1 a (by omega)
  exact ⟨z1, z2, fun z => ⟨z5 (by omega), z3⟩⟩
theorem upN_x {N x : Nat} {M X : gMem} (h : upN N x M X) (hx : N ≤ x) : ∀ a, a < N → mT X a = mT M a ∧ mL X a = mL M a ∧ mR X a = mR M a ∧ mI X a = mI M a := fun a ha =>
  ⟨(h a ha).1, (h a ha).2.1, ((h a ha).2.2 (by omega)).1, ((h a ha).2.2 (by omega)).2⟩
/-- a new State -/
theorem X12_new {M : gMem} {x m : Nat} (e : mN M = x) (hm : m < x) : ∃ X, f_X12_init (nW M 11 0) x (some m) = some ((), X) ∧ mN X = x + 17 ∧ upN x x M X ∧ mT X x = 11 ∧ mR X x 18 = some m ∧ (∀ j, 1 ≤ j → j < 17 → mT X (x + j) = 20 ∧ mL X (x + j) = lenS j ∧ mR X x (j + 1) = some (x + j)) ∧ (∀ j k, 1 ≤ j → j < 17 → mI X (x + j) k = 0) ∧ ∀ k, mI X x k = if k = 1 then 1 else 0 := by
  obtain ⟨S, hS⟩ : ∃ S, S = stW x m (nW M 11 0) := ⟨_, rfl⟩
  have nS : mN S = x + 1 := by rw [hS, ← e]; rfl
  have tS : mT S x = 11 := by rw [hS, ← e]; exact if_pos rfl
  have rS : mR S x 18 = some m := by
    rw [hS]
    exact if_pos ⟨rfl, rfl⟩
  have iS : ∀ k, mI S x k = if k = 1 then 1 else 0 := fun k => by
    rw [hS]
    by_cases q : k = 1
    · rw [if_pos q, q]; exact wI_e _ _ _ _
    · rw [if_neg q]
      refine (wI_o (.inr q)).trans ?_
      show (up1 (mI M) (mN M) (fun _ => 0)) x k = 0
      rw [e, up1_e]
  obtain ⟨l1, l2, l3, l4, l5⟩ := alL_f stL S (x := x) (by omega)
  have len : stL.length = 16 := by decide
  refine ⟨alL x stL S, ?_, by rw [l1, nS, len], ?_, by rw [(l2 x (by omega)).1]; exact tS, ?_, fun j j1 j2 => ?_, fun j k j1 j2 => ?_, fun k => by rw [(l2 x (by omega)).2.2.1]; exact iS k⟩
  · rw [hS]
    exact X12_i ⟨by rw [← e]; exact if_pos rfl, by show x < mN M + 1; omega⟩
  · refine upN_t ?_ (upN_L stL (by omega) (by omega) (.inl rfl))
    rw [hS]
    exact upN_t (upN_n (by omega)) (upN_t (upN_R (.inl rfl)) (upN_I (.inl rfl)))
  · rw [l4 18 (by decide)]; exact rS
  · obtain ⟨j, rfl⟩ : ∃ i, j = i + 1 := ⟨j - 1, by omega⟩
    have q := stL_2 j (by omega)
    have gd : stL.getD j (0, 0) = stL[j]'(by rw [len]; omega) := by rw [List.getD_eq_getElem?_getD, List.getElem?_eq_getElem (by rw [len]; omega)]; rfl
    rw [gd] at q
    obtain ⟨a1, a2, -⟩ := l3 j (by rw [len]; omega)
    rw [nS, show x + 1 + j = x + (j + 1) by omega] at a1 a2
    refine ⟨a1, a2.trans q.1, ?_⟩
    have r := l5 (fun a c ha hc e => by
      have qa := stL_2 a (by rw [len] at ha; omega)
      have qc := stL_2 c (by rw [len] at hc; omega)
      have ga : stL.getD a (0, 0) = stL[a] := by rw [List.getD_eq_getElem?_getD, List.getElem?_eq_getElem ha]; rfl
      have gc : stL.getD c (0, 0) = stL[c] := by rw [List.getD_eq_getElem?_getD, List.getElem?_eq_getElem hc]; rfl
      rw [ga] at qa
      rw [gc] at qc
      omega) j (by rw [len]; omega)
    rw [q.2, nS] at r
    rw [show j + 1 + 1 = j + 2 by omega, r]
    congr 1
    omega
  · obtain ⟨j, rfl⟩ : ∃ i, j = i + 1 := ⟨j - 1, by omega⟩
    obtain ⟨-, -, a3⟩ := l3 j (by rw [len]; omega)
    rw [nS, show x + 1 + j = x + (j + 1) by omega] at a3
    exact a3 k
