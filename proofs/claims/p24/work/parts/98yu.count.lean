/-! ## Pure: count -/
theorem sumN_add {f : Nat → Int32} {a : Nat} : ∀ b, sumN f (a + b) = sumN f a + sumN (fun k => f (a + k)) b
  | 0 => by show _ = _ + (0 : Int32); rw [Int32.add_zero]; rfl
  | b + 1 => by
    show sumN f (a + b) + f (a + b) = sumN f a + (sumN (fun k => f (a + k)) b + f (a + b))
    rw [sumN_add b, Int32.add_assoc]
theorem sumN_5 {f : Nat → Int32} : ∀ n, sumN f (5 * n) = sumN (fun g => sumN (fun k => f (5 * g + k)) 5) n
  | 0 => rfl
  | n + 1 => by
    rw [show 5 * (n + 1) = 5 * n + 5 by omega, sumN_add, sumN_5 n]
    rfl
def cvA (A : Nat → Nat → Int32) (F G n c : Nat) : Int32 := if c = 0 then A 0 0 else if c = 1 then A 0 2 else if c = 2 then A 0 3 else if c = 3 then A 0 4 else if c = 4 then A 0 5 else if c = 5 then sumN (fun i => sum5 (A (19 + 2 * i)) 5) G else if c = 6 then sumN (fun i => A (34 + 2 * i) 4) F else if c = 7 then sumN (fun i => if A (34 + 2 * i) 1 ≤ A (34 + 2 * i) 0 then (0 : Int32) else 1) F else if c = 8 then sumN (fun i => if A (34 + 2 * i) 9 = nI 0 then (0 : Int32) else 1) F else nI n
theorem c_cv {b o F G n c : Nat} {M : gMem} (L : LC o M) (h1 : mT M b = 10) (h2 : mR M b 1 = some o) (h0 : mR M b 0 = some (b + 1)) (t9 : mT M (b + 1) = 9) (hn : mI M (b + 1) 0 = nI n) (g2 : cutF 86 o M 0 2 = nI G) (g3 : cutF 86 o M 0 3 = nI F) (hG : G ≤ 8) (hF : F ≤ 8) (hc : c < 10) : f_X11_count M b (nI c) = some (.inr (cvA (cutF 86 o M) F G n c), M) := by
  have h3 : mT M o = 7 := (L 0 (by omega)).1
  have cA : sC o (cutF 86 o M) M = M := sC_cut
  have A0 : mI M o = cutF 86 o M 0 := (cutF_e (n := 86) (d := 0) (by omega)).symm
  have k5 := s7_allFish (M := M) L g2 hG
  have k6 := s7_allStores (M := M) L g3 hF
  have k7 := s7_widenedNets (M := M) L g3 hF
  have k8 := s7_allCheats (M := M) L g3 hF
  rw [cA] at k5 k6 k7 k8
  unfold f_X11_count b_X11_count_0
  obtain rfl | rfl | rfl | rfl | rfl | rfl | rfl | rfl | rfl | rfl : c = 0 ∨ c = 1 ∨ c = 2 ∨ c = 3 ∨ c = 4 ∨ c = 5 ∨ c = 6 ∨ c = 7 ∨ c = 8 ∨ c = 9 := by omega
  · rw [if_pos (by decide), ck_t h1, dr_s h2, ck_t h3, A0]
    rfl
  · rw [if_neg (by decide), if_pos (by decide), ck_t h1, dr_s h2, ck_t h3, A0]
    rfl
  · rw [if_neg (by decide), if_neg (by decide), if_pos (by decide), ck_t h1, dr_s h2, ck_t h3, A0]
    rfl
  · rw [if_neg (by decide), if_neg (by decide), if_neg (by decide), if_pos (by decide), ck_t h1, dr_s h2, ck_t h3, A0]
    rfl
  · rw [if_neg (by decide), if_neg (by decide), if_neg (by decide), if_neg (by decide), if_pos (by decide), ck_t h1, dr_s h2, ck_t h3, A0]
    rfl
  · rw [if_neg (by decide), if_neg (by decide), if_neg (by decide), if_neg (by decide), if_neg (by decide), if_pos (by decide), ck_t h1, dr_s h2, ck_t h3, bd_s k5]
    rfl
  · rw [if_neg (by decide), if_neg (by decide), if_neg (by decide), if_neg (by decide), if_neg (by decide), if_neg (by decide), if_pos (by decide), ck_t h1, dr_s h2, ck_t h3, bd_s k6]
    rfl
  · rw [if_neg (by decide), if_neg (by decide), if_neg (by decide), if_neg (by decide), if_neg (by decide), if_neg (by decide), if_neg (by decide), if_pos (by decide), ck_t h1, dr_s h2, ck_t h3, bd_s k7]
    rfl
  · rw [if_neg (by decide), if_neg (by decide), if_neg (by decide), if_neg (by decide), if_neg (by decide), if_neg (by decide), if_neg (by decide), if_neg (by decide), if_pos (by decide), ck_t h1, dr_s h2, ck_t h3, bd_s k8]
    rfl
  · rw [if_neg (by decide), if_neg (by decide), if_neg (by decide), if_neg (by decide), if_neg (by decide), if_neg (by decide), if_neg (by decide), if_neg (by decide), if_neg (by decide), if_pos (by decide), ck_t h1, dr_s h0, ck_t t9, hn]
    rfl
