/-- the gap between stores -/
def gapV (A : Nat → Nat → Int32) : Nat → Int32
  | 0 => 0
  | n + 1 => maxN (fun i => A (34 + 2 * i) 4) n - minN (fun i => A (34 + 2 * i) 4) n
theorem c_gapV {o F : Nat} {A : Nat → Nat → Int32} {M : gMem} (L : LC o M) (h3 : A 0 3 = nI F) (hF : F ≤ 8) : f_X7_storeGap (sC o A M) o = some (gapV A F, sC o A M) := by
  match F, h3, hF with
  | 0, h3, _ => exact s7_storeGap0 L h3
  | n + 1, h3, hF => exact s7_storeGap L h3 (by omega)
theorem RS_fsh {A st : Nat → Nat → Int32} {F G np : Nat} (hG : G ≤ 8) (R : RS A st F G np) : sumN (st 1) (lenS 1) = sumN (fun i => sum5 (A (19 + 2 * i)) 5) G := by
  show sumN (st 1) 40 = _
  rw [sumN_ext (n := 5 * G) 40 (by omega) fun i i1 i2 => R.2.2.1 i i1 i2, sumN_5]
  exact sumN_c G fun g hg => (sum5_N 5 (f := A (19 + 2 * g)) (h := fun k => st 1 (5 * g + k)) (fun k hk => (R.1.2.1 g k hg hk).symm)).symm
/-- what is asked of a look ahead -/
def frV (A : Nat → Nat → Int32) (F G c : Nat) : Int32 := if c = 0 then sumN (fun i => A (34 + 2 * i) 4) F else if c = 1 then sumN (fun i => sum5 (A (19 + 2 * i)) 5) G else gapV A F
