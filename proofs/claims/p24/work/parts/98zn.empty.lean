/-! ## Pure: empty on both sides -/
/-- the first of the numbers k, k + 1 .. (r of them) at which there is nothing -/
def emV (fz : Nat → Int32) : Nat → Nat → Int32
  | 0, _ => -1
  | r + 1, k => if fz k = 0 then nI k else emV fz r (k + 1)
theorem OFr_t {pg : Nat → Nat} {o' len F G np ng n : Nat} {M X1 : gMem} {A' : Nat → Nat → Int32} (O : OFr o' M X1) (W : WS (cutF 86 o' X1) F G np ng) (D : WD (cutF 86 o' X1) F G) (h : nz A' = tidesA pg len np ng F G (nz (cutF 86 o' X1)) n) : OFr o' M (sC o' A' X1) := sorry

theorem gcell {α : Type} {X : gMem} {o f : Nat} {k : Nat → Nat → Option α} (L : LC o X) (hf : f < 8) : (ck (mT X o = 7) <| dr (mR X o 6) fun a => ck (mT X a = 23) <| ck (inb (nI f) (mL X a)) <| dr (mR X a (nI f).toNatClampNeg) fun c => ck (mT X c = 3) <| k a c) = k (o + 1) (o + (18 + 2 * f)) := sorry

theorem c_empty {Z pg : Nat → Nat} {o' len F G np ng g : Nat} {M X1 : gMem} (L' : LC o' M) (O : OFr o' M X1) (P : PG Z pg o' len X1 (cutF 86 o' X1)) (W : WS (cutF 86 o' X1) F G np ng) (D : WD (cutF 86 o' X1) F G) (hg : g < 8) : ∀ r k A', k + r = 101 → nz A' = tidesA pg len np ng F G (nz (cutF 86 o' X1)) (k - 1) → ∃ X2, OFr o' M X2 ∧ lp_X11_empty_12 Z (sC o' A' X1) (nI g) (some o') (nI k) = some (.inr (emV (fun j => sum5 (tidesA pg len np ng F G (nz (cutF 86 o' X1)) j (19 + 2 * g)) 5) r k), X2) := sorry
