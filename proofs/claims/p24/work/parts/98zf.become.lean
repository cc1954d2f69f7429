/-! ## Pure: the reference looks ahead -/
def bcm (src st : Nat → Nat → Int32) : Nat → Nat → Nat → Int32
  | 0 => st
  | j + 1 => up1 (bcm src st j) (j + 1) (va_cpy (src (j + 1)) (bcm src st j (j + 1)) 0 0 (lenS (j + 1)))
theorem bcm_o {src st : Nat → Nat → Int32} {d : Nat} : ∀ j, (d = 0 ∨ j < d) → bcm src st j d = st d := sorry

theorem bcm_v {src st : Nat → Nat → Int32} {d k : Nat} : ∀ j, 1 ≤ d → d ≤ j → k < lenS d → bcm src st j d k = src d k := sorry

theorem RS_bec {A st st' : Nat → Nat → Int32} {F G np : Nat} (hF : F ≤ 8) (hG : G ≤ 8) (hp6 : np ≤ 6) (h0 : st' 0 0 = st 0 0 ∧ st' 0 1 = st 0 1) (h : ∀ j k, 1 ≤ j → j < 13 → k < lenS j → st' j k = st j k) (R : RS A st F G np) : RS A st' F G np := sorry
