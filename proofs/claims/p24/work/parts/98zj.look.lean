/-! ## Pure: the frame of a look ahead; foresee -/
theorem in_bt {x : Int32} {n : Nat} (hn : n ≤ 2000) : (x < 1 ∨ nI n < x) ↔ ¬ ∃ a, 1 ≤ a ∧ a ≤ n ∧ x = nI a := sorry

theorem c_ckT {x : Int32} {n : Nat} {M : gMem} (hn : n ≤ 2000) : ((∃ a, 1 ≤ a ∧ a ≤ n ∧ x = nI a) → f_X11_checkTides M x (nI n) = some (.inr (), M)) ∧ ((¬ ∃ a, 1 ≤ a ∧ a ≤ n ∧ x = nI a) → f_X11_checkTides M x (nI n) = some (.inl 1, M)) := sorry

/-- what a look ahead of both leaves alone -/
def AFr (m o' : Nat) (M X : gMem) : Prop := (mT X = mT M ∧ mL X = mL M ∧ mN X = mN M) ∧ (∀ a, a ≠ o' + 6 → mR X a = mR M a) ∧ (∀ a, a ≠ m → (a < o' ∨ o' + 86 ≤ a ∨ (o' + 12 ≤ a ∧ a < o' + 18)) → (a < m + 41 ∨ m + 58 ≤ a) → mI X a = mI M a) ∧ (∀ k, k ≠ 0 → mI X m k = mI M m k) ∧ PSz o' X
theorem AFr_O {m o' : Nat} {M X : gMem} (h : m < o' ∨ o' + 86 ≤ m) (O : OFr o' M X) : AFr m o' M X := sorry

theorem AFr_w {m o' : Nat} {M X : gMem} {v : Int32} (h : m < o' ∨ o' + 86 ≤ m) (A : AFr m o' M X) : AFr m o' M (wI X m 0 v) := sorry

theorem AFr_b {m o' : Nat} {M X : gMem} {st : Nat → Nat → Int32} (h : m + 58 ≤ o' ∨ o' + 86 ≤ m) (A : AFr m o' M X) : AFr m o' M (bC 17 (m + 41) st X) := sorry

theorem STv_a {Z : Nat → Nat} {b m o o' t n kb : Nat} {T : Nat → Nat} {M X : gMem} (S : STv Z b m o o' t n kb T M) (A : AFr m o' M X) : STv Z b m o o' t n kb T X := sorry

/-- the places of both -/
theorem STv_p {Z : Nat → Nat} {b m o o' t n kb : Nat} {T : Nat → Nat} {M : gMem} (S : STv Z b m o o' t n kb T M) : (o' + 86 ≤ m) ∧ (o + 86 ≤ m) ∧ (o + 86 ≤ o' ∨ o' + 86 ≤ o) ∧ (b < o' ∧ b < o) ∧ m + 7 ≤ t ∧ (t = m + 7 ∨ m + 58 ≤ t) ∧ LC o M ∧ LC o' M ∧ PSz o M ∧ PSz o' M ∧ mR M b 2 = some o' ∧ t + 17 ≤ mN M ∧ m + 58 ≤ mN M := sorry

/-- the class's look -/
theorem c_look {Z pg : Nat → Nat} {b m o o' t n kb len F G np ng : Nat} {T : Nat → Nat} {M X : gMem} (S : STv Z b m o o' t n kb T M) (O : OFr o' M X) (P : PG Z pg o len M (cutF 86 o M)) (W : WS (cutF 86 o M) F G np ng) (R : RS (cutF 86 o M) (cutF 17 (m + 24) M) F G np) : ∃ X1, f_X11_lookAhead Z X b = some (some o', X1) ∧ OFr o' M X1 ∧ CPY (cutF 86 o M) (cutF 86 o' X1) F G np ng len ∧ PG Z pg o' len X1 (cutF 86 o' X1) := sorry

/-- the class's tides in the copy -/
theorem c_run {Z pg : Nat → Nat} {o' len F G np ng n : Nat} {M X1 : gMem} {A2 : Nat → Nat → Int32} (L' : LC o' M) (O : OFr o' M X1) (P : PG Z pg o' len X1 A2) (W : WS A2 F G np ng) (D : WD A2 F G) (h12 : ∀ d, 12 ≤ d → d < 18 → A2 d = cutF 86 o' X1 d) (hP : ∀ q, q < 6 → A2 (74 + 2 * q) 3 = cutF 86 o' X1 (74 + 2 * q) 3) (hn : n < 2 ^ 31) : ∃ A', f_X7_passTides Z (sC o' A2 X1) o' (nI n) = some (incA pg len np ng F G (nz A2) n, sC o' A' X1) ∧ (∀ d, (d < 8 ∨ 11 < d) → A' d = tidesA pg len np ng F G (nz A2) n d) ∧ OFr o' M (sC o' A' X1) ∧ LC o' X1 ∧ WS (nz A2) F G np ng ∧ WD (nz A2) F G := sorry

/-- the reference, seen behind the class's look -/
theorem m_AF {Z : Nat → Nat} {b m o o' t n kb : Nat} {T : Nat → Nat} {M X : gMem} (S : STv Z b m o o' t n kb T M) (A : AFr m o' M X) : mT X m = 13 ∧ mR X m 11 = some t ∧ mR X m 13 = some (m + 24) ∧ mR X m 14 = some (m + 41) ∧ LSt m t (m + 24) X ∧ LSt m t (m + 41) X ∧ (∀ j, j < 17 → mI X (t + j) = mI M (t + j)) ∧ (∀ d, d < 17 → mI X (m + 24 + d) = mI M (m + 24 + d)) ∧ mT X t = 12 := sorry

theorem c_frV {o F G c : Nat} {A : Nat → Nat → Int32} {X : gMem} (L : LC o X) (h2 : A 0 2 = nI G) (h3 : A 0 3 = nI F) (hF : F ≤ 8) (hG : G ≤ 8) (hc : c < 3) : (if nI c = (0 : Int32) then ck (mT (sC o A X) o = 7) <| bd (f_X7_allStores (sC o A X) o) fun r8 M8 => some ((.inr r8 : Nat ⊕ Int32), M8) else (if nI c = (1 : Int32) then ck (mT (sC o A X) o = 7) <| bd (f_X7_allFish (sC o A X) o) fun r11 M11 => some (.inr r11, M11) else ck (mT (sC o A X) o = 7) <| bd (f_X7_storeGap (sC o A X) o) fun r13 M13 => some (.inr r13, M13))) = some (.inr (frV A F G c), sC o A X) := sorry

theorem frV_cg {A B : Nat → Nat → Int32} {F G c : Nat} (h : ∀ d, 18 ≤ d → A d = B d) : frV A F G c = frV B F G c := sorry
