/-! ## Pure: the checksum of the class -/
def itN (s : Nat → Int64 → Int64) : Nat → Int64 → Int64
  | 0, d => d
  | n + 1, d => s n (itN s n d)
def dg1 (v : Nat → Int32) (n : Nat) (d : Int64) : Int64 := itN (fun j d => d * (31 : Int64) + Int32.toInt64 (v j)) n d
theorem itN_s {s : Nat → Int64 → Int64} {n : Nat} {d : Int64} : itN s (n + 1) d = s n (itN s n d) := sorry

theorem dg1_s {v : Nat → Int32} {j : Nat} {d : Int64} : dg1 v j d * (31 : Int64) + Int32.toInt64 (v j) = dg1 v (j + 1) d := sorry

noncomputable def dgG (A : Nat → Nat → Int32) (F g : Nat) (d : Int64) : Int64 := dg1 (fun f => A (35 + 2 * f) g) F (dg1 (gvA A g) 9 d)
noncomputable def dgV (A : Nat → Nat → Int32) (F G np n : Nat) : Int64 :=
  dg1 (fun j => nI (ltA F (A 0 1) j)) F (itN (fun p d => dg1 (pvA A p) 7 d) np (itN (fun f d => dg1 (fvA A f) 10 d) F (itN (dgG A F) G (dg1 (cvA A F G n) 10 (739 : Int64)))))
theorem c_digest {b o F G np ng n : Nat} {M : gMem} (L : LC o M) (h1 : mT M b = 10) (h2 : mR M b 1 = some o) (h0 : mR M b 0 = some (b + 1)) (t9 : mT M (b + 1) = 9) (hn : mI M (b + 1) 0 = nI n) (W : WS (cutF 86 o M) F G np ng) (c9 : ∀ f, f < F → cutF 86 o M (34 + 2 * f) 9 = 0 ∨ cutF 86 o M (34 + 2 * f) 9 = 1) : ∃ A', f_X11_digest M b = some (dgV (cutF 86 o M) F G np n, sC o A' M) ∧ nz A' = nz (cutF 86 o M) := sorry
