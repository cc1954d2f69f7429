/-! ## Pure: the frame of a look ahead; foresee -/
theorem in_bt {x : Int32} {n : Nat} (hn : n ≤ 2000) : (x < 1 ∨ nI n < x) ↔ ¬ ∃ a, 1 ≤ a ∧ a ≤ n ∧ x = nI a := by
  by_cases h : x < 0
  · refine ⟨fun _ => ?_, fun _ => .inl ?_⟩
    · rintro ⟨a, h0, h1, h2⟩
      rw [h2] at h
      exact absurd ((nI_ltI (a := a) (b := 0) (by omega) (by omega)).mp h) (by omega)
    · have z := Int32.lt_iff_toInt_lt.mp h
      refine Int32.lt_iff_toInt_lt.mpr ?_
      have i0 : (0 : Int32).toInt = 0 := by decide
      have i1 : (1 : Int32).toInt = 1 := by decide
      omega
  · obtain ⟨a, h1, h2⟩ := nn_ex h
    subst h1
    have e1 : nI a < 1 ↔ a < 1 := nI_ltI (b := 1) h2 (by omega)
    have e2 : nI n < nI a ↔ n < a := nI_ltI (by omega) h2
    rw [e1, e2]
    constructor
    · rintro z ⟨c, c1, c2, c3⟩
      have e : a = c := (nI_eq h2 (by omega)).mp c3
      omega
    · intro w
      refine Classical.byContradiction fun z => w ⟨a, by omega, by omega, rfl⟩
theorem c_ckT {x : Int32} {n : Nat} {M : gMem} (hn : n ≤ 2000) : ((∃ a, 1 ≤ a ∧ a ≤ n ∧ x = nI a) → f_X11_checkTides M x (nI n) = some (.inr (), M)) ∧ ((¬ ∃ a, 1 ≤ a ∧ a ≤ n ∧ x = nI a) → f_X11_checkTides M x (nI n) = some (.inl 1, M)) := by
  unfold f_X11_checkTides b_X11_checkTides_0 b_X11_checkTides_10
  refine ⟨fun h => ?_, fun h => ?_⟩
  · have z : ¬ (x < 1 ∨ nI n < x) := fun z => (in_bt hn).mp z h
    obtain ⟨a, a1, a2, rfl⟩ := h
    rw [if_neg (fun w => z (.inl w)), if_pos (nI_le a2 (by omega))]
  · by_cases q : x < 1
    · rw [if_pos q]
    · rw [if_neg q, if_neg]
      intro w
      have z := ((in_bt hn).mpr h).resolve_left q
      have z1 := Int32.lt_iff_toInt_lt.mp z
      have z2 := Int32.le_iff_toInt_le.mp w
      omega
/-- what a look ahead of both leaves alone -/
def AFr (m o' : Nat) (M X : gMem) : Prop := (mT X = mT M ∧ mL X = mL M ∧ mN X = mN M) ∧ (∀ a, a ≠ o' + 6 → mR X a = mR M a) ∧ (∀ a, a ≠ m → (a < o' ∨ o' + 86 ≤ a ∨ (o' + 12 ≤ a ∧ a < o' + 18)) → (a < m + 41 ∨ m + 58 ≤ a) → mI X a = mI M a) ∧ (∀ k, k ≠ 0 → mI X m k = mI M m k) ∧ PSz o' X
theorem AFr_O {m o' : Nat} {M X : gMem} (h : m < o' ∨ o' + 86 ≤ m) (O : OFr o' M X) : AFr m o' M X :=
  ⟨⟨O.1, O.2.1, O.2.2.2.1⟩, O.2.2.2.2.1, fun a _ h2 _ => O.2.2.2.2.2.1 a h2, fun k _ => by rw [O.2.2.2.2.2.1 m (by omega)], O.2.2.2.2.2.2⟩
theorem AFr_w {m o' : Nat} {M X : gMem} {v : Int32} (h : m < o' ∨ o' + 86 ≤ m) (A : AFr m o' M X) : AFr m o' M (wI X m 0 v) :=
  ⟨A.1, A.2.1, fun a h1 h2 h3 => by rw [← A.2.2.1 a h1 h2 h3]; funext k; exact wI_o (.inl h1), fun k hk => by rw [wI_o (.inr hk)]; exact A.2.2.2.1 k hk, PSz_e A.2.2.2.2 fun d i1 i2 => by funext k; exact wI_o (.inl (by omega))⟩
theorem AFr_b {m o' : Nat} {M X : gMem} {st : Nat → Nat → Int32} (h : m + 58 ≤ o' ∨ o' + 86 ≤ m) (A : AFr m o' M X) : AFr m o' M (bC 17 (m + 41) st X) :=
  ⟨A.1, A.2.1, fun a h1 h2 h3 => by rw [← A.2.2.1 a h1 h2 h3]; funext k; exact bC_Io (by omega), fun k hk => by rw [bC_Io (by omega)]; exact A.2.2.2.1 k hk, PSz_e A.2.2.2.2 fun d i1 i2 => by funext k; exact bC_Io (by omega)⟩
theorem STv_a {Z : Nat → Nat} {b m o o' t n kb : Nat} {T : Nat → Nat} {M X : gMem} (S : STv Z b m o o' t n kb T M) (A : AFr m o' M X) : STv Z b m o o' t n kb T X := by
  have S' := id S
  obtain ⟨s0, ⟨-, oo, -, ⟨L1, L2, F1, F2, P1, P2⟩, cN⟩, ⟨-, -, -, ⟨v1, v2, v3, v4⟩⟩, RL, -⟩ := S'
  obtain ⟨⟨a1, a2, a3⟩, a4, a5, a6, a7⟩ := A
  refine STv_u S (fun a _ => ⟨by rw [a1], by rw [a2], a4 a⟩) (fun a _ i1 i2 i3 => a5 a i1 (by omega) (by omega)) a6 ⟨FRS_e F1 fun d i1 i2 => a5 _ (by omega) (by omega) (by omega), FRS_e F2 fun d i1 i2 => a5 _ (by omega) (by omega) (by omega), PSz_e P1 fun d i1 i2 => a5 _ (by omega) (by omega) (by omega), a7⟩ (REL_fr RL (fun d hd => a5 _ (by omega) (by omega) (by omega)) (a4 _ (by omega)) (fun j hj => a5 _ (by omega) (by omega) (by omega)) (fun j hj => a5 _ (by omega) (by omega) (by omega))) (by omega)
/-- the places of both -/
theorem STv_p {Z : Nat → Nat} {b m o o' t n kb : Nat} {T : Nat → Nat} {M : gMem} (S : STv Z b m o o' t n kb T M) : (o' + 86 ≤ m) ∧ (o + 86 ≤ m) ∧ (o + 86 ≤ o' ∨ o' + 86 ≤ o) ∧ (b < o' ∧ b < o) ∧ m + 7 ≤ t ∧ (t = m + 7 ∨ m + 58 ≤ t) ∧ LC o M ∧ LC o' M ∧ PSz o M ∧ PSz o' M ∧ mR M b 2 = some o' ∧ t + 17 ≤ mN M ∧ m + 58 ≤ mN M := by
  obtain ⟨s0, ⟨⟨t0, r0, r1, r2⟩, oo, -, ⟨L1, L2, F1, F2, P1, P2⟩, cN⟩, ⟨-, -, -, ⟨v1, v2, v3, v4⟩⟩, RL, -⟩ := S
  exact ⟨by omega, by omega, by omega, by omega, v1, v4, L1, L2, P1, P2, r2, v2, v3⟩
/-- the class's look -/
theorem c_look {Z pg : Nat → Nat} {b m o o' t n kb len F G np ng : Nat} {T : Nat → Nat} {M X : gMem} (S : STv Z b m o o' t n kb T M) (O : OFr o' M X) (P : PG Z pg o len M (cutF 86 o M)) (W : WS (cutF 86 o M) F G np ng) (R : RS (cutF 86 o M) (cutF 17 (m + 24) M) F G np) : ∃ X1, f_X11_lookAhead Z X b = some (some o', X1) ∧ OFr o' M X1 ∧ CPY (cutF 86 o M) (cutF 86 o' X1) F G np ng len ∧ PG Z pg o' len X1 (cutF 86 o' X1) := by
  obtain ⟨c1, c2, LCo, c3, cA⟩ := STv_c S
  obtain ⟨p1, p2, p3, p4, p5, p6, p7, p8, p9, p10, p11, -, -⟩ := STv_p S
  obtain ⟨X1, x1, x2, x3, x4⟩ := c_copy p7 p8 p3 O P W p9 (fun f hf => (R.1.2.2.2 f hf).2.2.2.2)
  refine ⟨X1, ?_, x2, x3, x4⟩
  have rb : mR X b = mR M b := O.2.2.2.2.1 b (by omega)
  have rb1 : mR X1 b = mR M b := x2.2.2.2.2.1 b (by omega)
  unfold f_X11_lookAhead b_X11_lookAhead_0
  rw [ck_t (show mT X b = 10 by rw [O.1]; exact c1), rb, dr_s p11, ck_t (show mT X o' = 7 by rw [O.1]; exact lTo p8), c2, bd_s x1, ck_t (show mT X1 b = 10 by rw [x2.1]; exact c1), rb1, p11]
/-- the class's tides in the copy -/
theorem c_run {Z pg : Nat → Nat} {o' len F G np ng n : Nat} {M X1 : gMem} {A2 : Nat → Nat → Int32} (L' : LC o' M) (O : OFr o' M X1) (P : PG Z pg o' len X1 A2) (W : WS A2 F G np ng) (D : WD A2 F G) (h12 : ∀ d, 12 ≤ d → d < 18 → A2 d = cutF 86 o' X1 d) (hP : ∀ q, q < 6 → A2 (74 + 2 * q) 3 = cutF 86 o' X1 (74 + 2 * q) 3) (hn : n < 2 ^ 31) : ∃ A', f_X7_passTides Z (sC o' A2 X1) o' (nI n) = some (incA pg len np ng F G (nz A2) n, sC o' A' X1) ∧ (∀ d, (d < 8 ∨ 11 < d) → A' d = tidesA pg len np ng F G (nz A2) n d) ∧ OFr o' M (sC o' A' X1) ∧ LC o' X1 ∧ WS (nz A2) F G np ng ∧ WD (nz A2) F G := by
  have LX : LC o' X1 := OFr_LC O L' (fun z => absurd rfl z)
  obtain ⟨A', q1, q2⟩ := s7_passTides (n := n) LX (⟨P, W, D⟩ : WW Z pg o' len X1 F G np ng A2) hn
  have W0 : WS (nz A2) F G np ng := WS_c (eqT_nz A2) W
  have D0 : WD (nz A2) F G := WD_nz.mpr D
  have hA' : ∀ d, (d < 8 ∨ 11 < d) → A' d = tidesA pg len np ng F G (nz A2) n d := fun d hd => by rw [← q2, nz_e hd]
  obtain ⟨tw1, tw2⟩ := tides_W (pg := pg) (len := len) W0 D0 n
  refine ⟨A', q1, hA', ⟨O.1, O.2.1, O.2.2.1, O.2.2.2.1, O.2.2.2.2.1, fun a ha => ?_, fun q hq => ?_⟩, LX, W0, D0⟩
  · rw [← O.2.2.2.2.2.1 a ha]
    by_cases z : a < o' ∨ o' + 86 ≤ a
    · funext k
      exact sC_Io z
    · obtain ⟨d, rfl⟩ : ∃ d, a = o' + d := ⟨a - o', by omega⟩
      funext k
      rw [sC_I (by omega), hA' d (by omega), tides_o W0 D0 (by omega) n, nz_e (by omega), h12 d (by omega) (by omega), cutF_e (by omega)]
  · obtain ⟨c, z1, z2⟩ := O.2.2.2.2.2.2 q hq
    refine ⟨c, z1, ?_⟩
    rw [sC_I (by omega), hA' _ (by omega), tw1 _ 3 (by unfold told; omega), nz_e (by omega), hP q hq, cutF_e (by omega)]
    exact z2
/-- the reference, seen behind the class's look -/
theorem m_AF {Z : Nat → Nat} {b m o o' t n kb : Nat} {T : Nat → Nat} {M X : gMem} (S : STv Z b m o o' t n kb T M) (A : AFr m o' M X) : mT X m = 13 ∧ mR X m 11 = some t ∧ mR X m 13 = some (m + 24) ∧ mR X m 14 = some (m + 41) ∧ LSt m t (m + 24) X ∧ LSt m t (m + 41) X ∧ (∀ j, j < 17 → mI X (t + j) = mI M (t + j)) ∧ (∀ d, d < 17 → mI X (m + 24 + d) = mI M (m + 24 + d)) ∧ mT X t = 12 := by
  obtain ⟨p1, p2, p3, p4, p5, p6, p7, p8, p9, p10, p11, p12, p13⟩ := STv_p S
  obtain ⟨-, -, ⟨P, ⟨m11, m13, m14⟩, ⟨LA, LB⟩, -⟩, -, -⟩ := S
  obtain ⟨⟨a1, a2, a3⟩, a4, a5, a6, a7⟩ := A
  have rm : mR X m = mR M m := a4 m (by omega)
  have hb : ∀ c, m ≤ c → c < mN M → mT X c = mT M c ∧ mL X c = mL M c ∧ (c ≠ m → mR X c = mR M c) := fun c h1 h2 => ⟨by rw [a1], by rw [a2], fun _ => a4 c (by omega)⟩
  refine ⟨by rw [a1]; exact P.1.1, by rw [rm]; exact m11, by rw [rm]; exact m13, by rw [rm]; exact m14, LS_e2 LA (mN M) hb (by rw [rm]) (by omega) (by omega) (by omega) (by omega), LS_e2 LB (mN M) hb (by rw [rm]) (by omega) (by omega) (by omega) (by omega), fun j hj => a5 _ (by omega) (by omega) (by omega), fun d hd => a5 _ (by omega) (by omega) (by omega), by rw [a1]; exact LA.1.2.2.2.2⟩
theorem c_frV {o F G c : Nat} {A : Nat → Nat → Int32} {X : gMem} (L : LC o X) (h2 : A 0 2 = nI G) (h3 : A 0 3 = nI F) (hF : F ≤ 8) (hG : G ≤ 8) (hc : c < 3) : (if nI c = (0 : Int32) then ck (mT (sC o A X) o = 7) <| bd (f_X7_allStores (sC o A X) o) fun r8 M8 => some ((.inr r8 : Nat ⊕ Int32), M8) else (if nI c = (1 : Int32) then ck (mT (sC o A X) o = 7) <| bd (f_X7_allFish (sC o A X) o) fun r11 M11 => some (.inr r11, M11) else ck (mT (sC o A X) o = 7) <| bd (f_X7_storeGap (sC o A X) o) fun r13 M13 => some (.inr r13, M13))) = some (.inr (frV A F G c), sC o A X) := by
  obtain rfl | rfl | rfl : c = 0 ∨ c = 1 ∨ c = 2 := by omega
  · rw [if_pos (by decide), ck_t (cT0 L), bd_s (s7_allStores L h3 hF)]
    rfl
  · rw [if_neg (by decide), if_pos (by decide), ck_t (cT0 L), bd_s (s7_allFish L h2 hG)]
    rfl
  · rw [if_neg (by decide), if_neg (by decide), ck_t (cT0 L), bd_s (c_gapV L h3 hF)]
    rfl
theorem frV_cg {A B : Nat → Nat → Int32} {F G c : Nat} (h : ∀ d, 18 ≤ d → A d = B d) : frV A F G c = frV B F G c := by
  have g : ∀ n, gapV A n = gapV B n := fun n => by
    match n with
    | 0 => rfl
    | n + 1 =>
      have e : (fun i => A (34 + 2 * i) 4) = fun i => B (34 + 2 * i) 4 := by funext i; rw [h _ (by omega)]
      unfold gapV
      rw [e]
  have e1 : (fun i => A (34 + 2 * i) 4) = fun i => B (34 + 2 * i) 4 := by funext i; rw [h _ (by omega)]
  have e2 : (fun i => sum5 (A (19 + 2 * i)) 5) = fun i => sum5 (B (19 + 2 * i)) 5 := by funext i; rw [h _ (by omega)]
  unfold frV
  rw [g, e1, e2]

