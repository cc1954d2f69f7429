/-! ## Pure: pays on both sides -/
theorem fcell {α : Type} {X : gMem} {o f : Nat} {k : Nat → Nat → Option α} (L : LC o X) (hf : f < 8) : (ck (mT X o = 7) <| dr (mR X o 7) fun a => ck (mT X a = 24) <| ck (inb (nI f) (mL X a)) <| dr (mR X a (nI f).toNatClampNeg) fun c => ck (mT X c = 1) <| k a c) = k (o + 2) (o + (34 + 2 * f)) := sorry
