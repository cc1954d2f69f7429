/-! ## Pure: a fisher of a copy, changed; how much he has then -/
/-- the fisher f may be another, in his mesh and in whether he cheats -/
def eqM (f : Nat) (A B : Nat → Nat → Int32) : Prop := ∀ d k, (d ≠ 34 + 2 * f ∨ (k ≠ 9 ∧ k ≠ 1)) → B d k = A d k
theorem eqM_X {f : Nat} {A B : Nat → Nat → Int32} (hf : f < 8) (h : eqM f A B) : eqX A B := sorry

theorem eqM_d {f d : Nat} {A B : Nat → Nat → Int32} (h : eqM f A B) (hd : d ≠ 34 + 2 * f) : B d = A d := sorry

theorem WD_m {f F G : Nat} {A B : Nat → Nat → Int32} (h : eqM f A B) (hm : ∃ c, 1 ≤ c ∧ c ≤ 6 ∧ B (34 + 2 * f) 1 = nI c) (hG : G ≤ 8) (D : WD A F G) : WD B F G := sorry

theorem SVa_m {f F G kb : Nat} {A B : Nat → Nat → Int32} (h : eqM f A B) (V : SVa kb A F G) : SVa kb B F G := sorry

theorem RS_m {f F G np : Nat} {A B st : Nat → Nat → Int32} (hf : f < F) (hG : G ≤ 8) (h : eqM f A B) (h9 : B (34 + 2 * f) 9 = 0 ∨ B (34 + 2 * f) 9 = 1) (hp6 : np ≤ 6) (R : RS A st F G np) : RS B (up2 (up2 st 9 f (B (34 + 2 * f) 9)) 4 f (B (34 + 2 * f) 1)) F G np := sorry
