/-! ## Pure: what an event does to the class's memory -/
def lsn (M : gMem) (o f : Nat) : Nat := cn M o f - 1
def hsP (M : gMem) (o i : Nat) (v : Int32) : Prop := hasN (mI M (o + (75 + 2 * i))) (cn M (o + (74 + 2 * i)) 3) v
noncomputable def stp1 (Z : Nat → Nat) (r p o c i : Nat) (M : gMem) : gMem :=
  if c = 16 ∨ c = 17 ∨ c = 4 ∨ c = 19 then adM Z o c (mI (kwM r p (r + 3) i M) r 8) (kwM r p (r + 3) i M)
  else if c = 2 ∨ c = 18 then adM Z o c (mI (kwM r p (r + 1) i M) r 8) (kwM r p (r + 1) i M)
  else if c = 41 then adM Z o c (mI (nbM r p 0 999999 i M) r 8) (nbM r p 0 999999 i M)
  else if c = 15 ∨ c = 44 ∨ c = 23 ∨ c = 24 then adM Z o c (mI M r 8) M
  else if c < 45 then adM Z o c 0 M
  else if c = 51 then ngM o (nwM r p (r + 1) i M)
  else if c = 52 then nfM o (nwM r p (r + 3) i M)
  else if c = 53 then npM o (nwM r p (r + 5) i M)
  else if c = 54 then noM o (if cn M o 4 < 24 then M else ntM r p 4 i M)
  else if c = 55 then wI (nbM r p 1 8 i M) (o + (18 + 2 * lsn M o 2)) 0 (mI (nbM r p 1 8 i M) r 8)
  else if c = 57 then wI (wI (nbM r p 1 5 i M) (o + (34 + 2 * lsn M o 3)) 0 (mI (nbM r p 1 5 i M) r 8)) (o + (34 + 2 * lsn M o 3)) 1 (mI (nbM r p 1 5 i M) r 8)
  else if c = 58 then wI (nbM r p 1 99 i M) (o + (34 + 2 * lsn M o 3)) 2 (mI (nbM r p 1 99 i M) r 8)
  else if c = 59 then wI (nbM r p 1 40 i M) (o + (34 + 2 * lsn M o 3)) 3 (mI (nbM r p 1 40 i M) r 8)
  else if c = 60 then wI (kwM r p (r + 3) i M) (o + (50 + lsn M o 4)) 0 (mI (kwM r p (r + 3) i M) r 8)
  else if c = 61 then wI (wI (kwM r p (r + 1) i M) (o + (50 + lsn M o 4)) 1 (mI (kwM r p (r + 1) i M) r 8)) (o + (50 + lsn M o 4)) 2 (mI M (o + 5) 0)
  else if c = 64 ∨ c = 66 then wI M (o + (50 + lsn M o 4)) 3 (mI M (o + 5) 0)
  else if c = 62 then paM (o + (74 + 2 * lsn M o 5)) (mI (kwM r p (r + 3) i (cif (hsP M o (lsn M o 5) (fnd M (r + 3) (mJ M (p + 4) i))) (ntM r p 6 i M) M)) r 8) (kwM r p (r + 3) i (cif (hsP M o (lsn M o 5) (fnd M (r + 3) (mJ M (p + 4) i))) (ntM r p 6 i M) M))
  else if c = 63 then wI (wI (kwM r p (r + 1) i M) (o + (74 + 2 * lsn M o 5)) 0 (mI (kwM r p (r + 1) i M) r 8)) (o + (74 + 2 * lsn M o 5)) 1 (mI M (o + 5) 0)
  else if c = 65 then wI M (o + (74 + 2 * lsn M o 5)) 2 (mI M (o + 5) 0)
  else if 1000 ≤ c then (if c ≤ 1005 then wI (nbM r p 0 99 i M) (o + (19 + 2 * lsn M o 2)) (c - 1000) (mI (nbM r p 0 99 i M) r 8) else nbM r p 0 99 i (ntM r p 4 i M))
  else M
noncomputable def stp2 (Z : Nat → Nat) (r p o : Nat) (e : Nat × Nat) (M : gMem) : gMem := stp1 Z r p o e.1 e.2 (at' r e.2 M)
noncomputable def rnE (Z : Nat → Nat) (r p o : Nat) : List (Nat × Nat) → gMem → gMem
  | [], M => M
  | e :: t, M => rnE Z r p o t (stp2 Z r p o e M)
theorem rnE_app {Z : Nat → Nat} {r p o : Nat} : ∀ (a b : List (Nat × Nat)) (M : gMem), rnE Z r p o (a ++ b) M = rnE Z r p o b (rnE Z r p o a M) := sorry

theorem at_at {r j k : Nat} {M : gMem} : at' r k (at' r j M) = at' r k M := sorry

theorem rnE_at {Z : Nat → Nat} {r p o j k : Nat} {M : gMem} : ∀ (a : List (Nat × Nat)), at' r k (rnE Z r p o a (at' r j M)) = at' r k (rnE Z r p o a M) := sorry

theorem SF_n {r o : Nat} {M : gMem} (S : SF r o M) : lsn M o 2 < 8 ∧ lsn M o 3 < 8 ∧ lsn M o 4 < 24 ∧ lsn M o 5 < 6 := sorry

theorem CI_ng {r o : Nat} {M0 M : gMem} (ho : o + 86 ≤ r) (F : FRS o M) (C : CI r o M0 M) : CI r o M0 (ngM o M) ∧ CI r o M0 (nfM o M) ∧ CI r o M0 (npM o M) ∧ CI r o M0 (noM o M) := sorry

theorem CI_s1 {Z g ps vs : Nat → Nat} {K r p o c i : Nat} {M0 M : gMem} (W : CWd Z g ps vs K r p o M0) (C : CI r o M0 M) : CI r o M0 (stp1 Z r p o c i M) := sorry

theorem CI_rn {Z g ps vs : Nat → Nat} {K r p o : Nat} {M0 : gMem} (W : CWd Z g ps vs K r p o M0) : ∀ (a : List (Nat × Nat)) (M : gMem), CI r o M0 M → CI r o M0 (rnE Z r p o a M) := sorry

theorem ad_at {Z : Nat → Nat} {r o c k : Nat} {v : Int32} {M : gMem} (ho : o + 86 ≤ r) : adM Z o c v (at' r k M) = at' r k (adM Z o c v M) := sorry

theorem ad_6 {Z : Nat → Nat} {r o c : Nat} {v : Int32} {M : gMem} (ho : o + 86 ≤ r) : mI (adM Z o c v M) r 6 = mI M r 6 := sorry

theorem ad_8 {Z : Nat → Nat} {r o c j : Nat} {v : Int32} {M : gMem} (ho : o + 86 ≤ r) : mI (adM Z o c v M) r j = mI M r j := sorry
