/-- the gap between stores -/
def gapV (A : Nat → Nat → Int32) : Nat → Int32
  | 0 => 0
  | n + 1 => maxN (fun i => A (34 + 2 * i) 4) n - minN (fun i => A (34 + 2 * i) 4) n
theorem c_gapV {o F : Nat} {A : Nat → Nat → Int32} {M : gMem} (L : LC o M) (h3 : A 0 3 = nI F) (hF : F ≤ 8) : f_X7_storeGap (sC o A M) o = some (gapV A F, sC o A M) := sorry

theorem RS_fsh {A st : Nat → Nat → Int32} {F G np : Nat} (hG : G ≤ 8) (R : RS A st F G np) : sumN (st 1) (lenS 1) = sumN (fun i => sum5 (A (19 + 2 * i)) 5) G := sorry

/-- what is asked of a look ahead -/
def frV (A : Nat → Nat → Int32) (F G c : Nat) : Int32 := if c = 0 then sumN (fun i => A (34 + 2 * i) 4) F else if c = 1 then sumN (fun i => sum5 (A (19 + 2 * i)) 5) G else gapV A F
