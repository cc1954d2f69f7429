/-! ## Pure: count -/
theorem sumN_add {f : Nat → Int32} {a : Nat} : ∀ b, sumN f (a + b) = sumN f a + sumN (fun k => f (a + k)) b := sorry

theorem sumN_5 {f : Nat → Int32} : ∀ n, sumN f (5 * n) = sumN (fun g => sumN (fun k => f (5 * g + k)) 5) n := sorry

def cvA (A : Nat → Nat → Int32) (F G n c : Nat) : Int32 := if c = 0 then A 0 0 else if c = 1 then A 0 2 else if c = 2 then A 0 3 else if c = 3 then A 0 4 else if c = 4 then A 0 5 else if c = 5 then sumN (fun i => sum5 (A (19 + 2 * i)) 5) G else if c = 6 then sumN (fun i => A (34 + 2 * i) 4) F else if c = 7 then sumN (fun i => if A (34 + 2 * i) 1 ≤ A (34 + 2 * i) 0 then (0 : Int32) else 1) F else if c = 8 then sumN (fun i => if A (34 + 2 * i) 9 = nI 0 then (0 : Int32) else 1) F else nI n
theorem c_cv {b o F G n c : Nat} {M : gMem} (L : LC o M) (h1 : mT M b = 10) (h2 : mR M b 1 = some o) (h0 : mR M b 0 = some (b + 1)) (t9 : mT M (b + 1) = 9) (hn : mI M (b + 1) 0 = nI n) (g2 : cutF 86 o M 0 2 = nI G) (g3 : cutF 86 o M 0 3 = nI F) (hG : G ≤ 8) (hF : F ≤ 8) (hc : c < 10) : f_X11_count M b (nI c) = some (.inr (cvA (cutF 86 o M) F G n c), M) := sorry
