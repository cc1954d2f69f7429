/-! ## Pure: the class is made, and both begin -/
def tpT (d : Nat) : Nat := [9, 22, 27, 20, 21].getD d 0
def tpL (d : Nat) : Nat := [0, 2000, 401, 401, 401].getD d 0
def rTp (p n : Nat) (w : Nat → Option Nat) (d k : Nat) : Option Nat := if d = 2 then w k else if d = 0 ∧ 1 ≤ k ∧ k < n then some (p + k) else none
def tpS (p n : Nat) (w : Nat → Option Nat) (M : gMem) : gMem := mkB p n tpT tpL (fun _ _ => 0) (rTp p n w) M
theorem tp_s {p n t l : Nat} {w : Nat → Option Nat} {M : gMem} {K : gMem → Option (Unit × gMem)} (h1 : 1 ≤ n) (ht : tpT n = t) (hl : tpL n = l) (h2 : n = 2 → w = fun _ => none) : (lw (nW (tpS p n w M) t l) fun M1 => ck (mT M1 p = 9) <| lw (wR M1 p n (some (mN (tpS p n w M)))) K) = K (tpS p (n + 1) w M) := by
  have hr : rTp p n w n = fun _ => none := by
    funext k
    unfold rTp
    by_cases c : n = 2
    · rw [if_pos c, h2 c]
    · rw [if_neg c, if_neg (by omega)]
  have e1 : nW (tpS p n w M) t l = mkB p (n + 1) tpT tpL (fun _ _ => 0) (rTp p n w) M := mkB_n ht hl rfl hr
  have e2 : up2 (rTp p n w) 0 n (some (p + n)) = rTp p (n + 1) w := by
    funext d k
    by_cases c : d = 0 ∧ k = n
    · rw [c.1, c.2, up2_eq]
      unfold rTp
      rw [if_neg (by omega), if_pos ⟨rfl, h1, by omega⟩]
    · rw [up2_ne (by omega)]
      unfold rTp
      by_cases c2 : d = 2
      · rw [if_pos c2, if_pos c2]
      · rw [if_neg c2, if_neg c2]
        by_cases c3 : d = 0 ∧ 1 ≤ k ∧ k < n
        · rw [if_pos c3, if_pos (by omega)]
        · rw [if_neg c3, if_neg (by omega)]
  have e3 : wR (mkB p (n + 1) tpT tpL (fun _ _ => 0) (rTp p n w) M) (p + 0) n (some (p + n)) = tpS p (n + 1) w M := by
    rw [mkB_R (by omega), e2]
    rfl
  rw [lw_S, e1, ck_t (c := mT (mkB p (n + 1) tpT tpL (fun _ _ => 0) (rTp p n w) M) p = 9) (blk_i (d := 0) (by omega)), lw_S]
  exact congrArg K e3
theorem X10_new {Z : Nat → Nat} {M : gMem} {p : Nat} (e : mN M = p) : ∃ w, f_X10_init Z (nW M 9 0) p = some ((), tpS p 5 w M) := by
  refine ⟨fun k => if k < 401 then some (Z 42) else none, ?_⟩
  have s0 : nW M 9 0 = tpS p 1 (fun _ => none) M := by
    have z : M = mkB p 0 tpT tpL (fun _ _ => 0) (rTp p 1 (fun _ => none)) M := mkB_0 e
    rw (occs := .pos [1]) [z]
    refine mkB_n rfl rfl rfl ?_
    funext k
    unfold rTp
    rw [if_neg (by omega), if_neg (by omega)]
  unfold f_X10_init b_X10_init_0
  rw [s0, tp_s (n := 1) (t := 22) (l := ((2000 : Int32)).toNatClampNeg) (by omega) rfl rfl (fun z => absurd z (by omega))]
  rw [tp_s (n := 1 + 1) (t := 27) (l := ((401 : Int32)).toNatClampNeg) (by omega) rfl rfl (fun _ => rfl)]
  rw [tp_s (n := 1 + 1 + 1) (t := 20) (l := ((401 : Int32)).toNatClampNeg) (by omega) rfl rfl (fun z => absurd z (by omega))]
  rw [tp_s (n := 1 + 1 + 1 + 1) (t := 21) (l := ((401 : Int32)).toNatClampNeg) (by omega) rfl rfl (fun z => absurd z (by omega))]
  have w0 : (fun k : Nat => if k < 0 then some (Z 42) else none) = fun _ => none := by
    funext k; exact if_neg (by omega)
  have l2 : ∀ w, mL (tpS p 5 w M) (p + 2) = 401 := fun w => blk_i (d := 2) (by omega)
  have r2 : ∀ w, mR (tpS p 5 w M) p 2 = some (p + 2) := fun w => by
    have z : mR (tpS p 5 w M) (p + 0) = rTp p 5 w 0 := blk_i (by omega)
    show mR (tpS p 5 w M) (p + 0) 2 = _
    rw [z]
    rfl
  have key := lp_seq (f := fun (q : gMem × Int32) => bb_X10_init_43 Z q.1 p q.2) (b := ((), tpS p 5 (fun k => if k < 401 then some (Z 42) else none) M)) (fun j => (tpS p 5 (fun k => if k < j then some (Z 42) else none) M, nI j)) 0 401 (by omega) (fun j _ hj => ?_) ?_
  · rw [w0] at key
    exact key
  · show bb_X10_init_43 Z (tpS p 5 (fun k => if k < j then some (Z 42) else none) M) p (nI j) = _
    have q1 : ¬ nI 401 ≤ nI j := fun z => by have := (nI_leI (by omega) (by omega)).mp z; omega
    have e6 : wR (tpS p 5 (fun k => if k < j then some (Z 42) else none) M) (p + 2) j (some (Z 42)) = tpS p 5 (fun k => if k < j + 1 then some (Z 42) else none) M := by
      unfold tpS
      rw [mkB_R (by omega)]
      congr 1
      funext d k
      by_cases c : d = 2 ∧ k = j
      · rw [c.1, c.2, up2_eq]
        unfold rTp
        rw [if_pos rfl]
        exact (if_pos (Nat.lt_succ_self j)).symm
      · rw [up2_ne (by omega)]
        unfold rTp
        by_cases c6 : d = 2
        · rw [if_pos c6, if_pos c6]
          show (if k < j then some (Z 42) else none) = (if k < j + 1 then some (Z 42) else none)
          by_cases ck : k < j
          · rw [if_pos ck, if_pos (by omega)]
          · rw [if_neg ck, if_neg (by omega)]
        · rw [if_neg c6, if_neg c6]
    unfold bb_X10_init_43
    rw [ck_t (c := mT (tpS p 5 (fun k => if k < j then some (Z 42) else none) M) p = 9) (blk_i (d := 0) (by omega)), dr_s (r2 _), ck_t (c := mT (tpS p 5 (fun k => if k < j then some (Z 42) else none) M) (p + 2) = 27) (blk_i (d := 2) (by omega)), l2, show Int32.ofNat 401 = nI 401 from rfl, if_neg q1, ck_t (show inb (nI j) 401 from (inbN (by omega)).mpr hj), nI_clamp (by omega), lw_S, e6, nI_1]
  · show bb_X10_init_43 Z (tpS p 5 (fun k => if k < 401 then some (Z 42) else none) M) p (nI 401) = _
    unfold bb_X10_init_43
    rw [ck_t (c := mT (tpS p 5 (fun k => if k < 401 then some (Z 42) else none) M) p = 9) (blk_i (d := 0) (by omega)), dr_s (r2 _), ck_t (c := mT (tpS p 5 (fun k => if k < 401 then some (Z 42) else none) M) (p + 2) = 27) (blk_i (d := 2) (by omega)), l2, show Int32.ofNat 401 = nI 401 from rfl, if_pos (nI_le (Nat.le_refl _) (by omega))]
    rfl
theorem sh_o {o n a : Nat} {w : Nat → Option Nat} {P : Nat → Prop} {M : gMem} (h : a < o ∨ o + n ≤ a) : mT (shS o n w P M) a = mT M a ∧ mL (shS o n w P M) a = mL M a ∧ mR (shS o n w P M) a = mR M a ∧ mI (shS o n w P M) a = mI M a := ⟨blk_o h, blk_o h, blk_o h, blk_o h⟩
theorem sh_LC {o : Nat} {w : Nat → Option Nat} {M : gMem} : LC o (shS o 86 w (fun x => x < 86) M) := fun d hd => by
  refine ⟨blk_i hd, blk_i hd, fun h6 k => ?_⟩
  have z : mR (shS o 86 w (fun x => x < 86) M) (o + d) = rSh o w (fun x => x < 86) d := blk_i hd
  rw [z]
  unfold rSh
  rw [if_neg h6]
  cases q : layR d k with
  | none => rfl
  | some e => exact cif_t (layR_p q).1
theorem sh_i {o d : Nat} {w : Nat → Option Nat} {P : Nat → Prop} {M : gMem} (h : d < 86) : mI (shS o 86 w P M) (o + d) = IN d := blk_i h
theorem IN_FRS {o : Nat} {X : gMem} (h : ∀ d, 12 ≤ d → d < 18 → mI X (o + d) = IN d) : FRS o X :=
  ⟨fun k _ => by rw [h 12 (by omega) (by omega)]; rfl, fun k _ _ => by rw [h 13 (by omega) (by omega)]; rfl, fun k _ => by rw [h 14 (by omega) (by omega)]; rfl, fun k _ => by rw [h 15 (by omega) (by omega)]; rfl, fun k _ => by rw [h 16 (by omega) (by omega)]; rfl, fun k _ => by rw [h 17 (by omega) (by omega)]; rfl⟩
theorem IN_PSz {o : Nat} {X : gMem} (h : ∀ d, 74 ≤ d → d < 86 → mI X (o + d) = IN d) : PSz o X := fun q hq =>
  ⟨0, by omega, by rw [h _ (by omega) (by omega)]; exact (by decide : ∀ q, q < 6 → IN (74 + 2 * q) 3 = nI 0) q hq⟩
/-- a new object of the class -/
theorem X11_new {Z : Nat → Nat} {M : gMem} {b : Nat} (e : mN M = b) : ∃ X, f_X11_init Z (nW M 10 0) b = some ((), X) ∧ mN X = b + 178 ∧ (∀ a, a < b → mT X a = mT M a ∧ mL X a = mL M a ∧ mR X a = mR M a ∧ mI X a = mI M a) ∧ (∀ T, CIv b (b + 6) (b + 92) 0 T X) ∧ mI X b 3 = -1 ∧ ∀ d, d < 86 → mI X (b + 6 + d) = IN d := by
  obtain ⟨C0, hC0⟩ : ∃ C0, C0 = nW M 10 0 := ⟨_, rfl⟩
  have n0 : mN C0 = b + 1 := by rw [hC0, ← e]; rfl
  have t0 : mT C0 b = 10 := by rw [hC0, ← e]; exact if_pos rfl
  obtain ⟨v, h10⟩ := X10_new (Z := Z) n0
  obtain ⟨C1, hC1⟩ : ∃ C1, C1 = tpS (b + 1) 5 v C0 := ⟨_, rfl⟩
  obtain ⟨C2, hC2⟩ : ∃ C2, C2 = wR C1 b 0 (some (b + 1)) := ⟨_, rfl⟩
  have n2 : mN C2 = b + 6 := by rw [hC2, hC1]; rfl
  obtain ⟨w, h7⟩ := X7_new (Z := Z) n2
  obtain ⟨C3, hC3⟩ : ∃ C3, C3 = shS (b + 6) 86 w (fun x => x < 86) C2 := ⟨_, rfl⟩
  obtain ⟨C4, hC4⟩ : ∃ C4, C4 = wR C3 b 1 (some (b + 6)) := ⟨_, rfl⟩
  have n4 : mN C4 = b + 92 := by rw [hC4, hC3]; rfl
  obtain ⟨w', h7'⟩ := X7_new (Z := Z) n4
  obtain ⟨C5, hC5⟩ : ∃ C5, C5 = shS (b + 92) 86 w' (fun x => x < 86) C4 := ⟨_, rfl⟩
  obtain ⟨C6, hC6⟩ : ∃ C6, C6 = wI (wR C5 b 2 (some (b + 92))) b 3 (-1) := ⟨_, rfl⟩
  rw [← hC1] at h10
  rw [← hC3] at h7
  rw [← hC5] at h7'
  have g6 : ∀ a, a ≠ b → mT C6 a = mT C5 a ∧ mL C6 a = mL C5 a ∧ mR C6 a = mR C5 a ∧ mI C6 a = mI C5 a := fun a h => by
    rw [hC6]
    exact ⟨rfl, rfl, by funext k; exact wR_n (.inl h), by funext k; exact wI_o (.inl h)⟩
  have g5 : ∀ a, (a < b + 92 ∨ b + 178 ≤ a) → mT C5 a = mT C4 a ∧ mL C5 a = mL C4 a ∧ mR C5 a = mR C4 a ∧ mI C5 a = mI C4 a := fun a h => by
    rw [hC5]
    exact sh_o (by omega)
  have g4 : ∀ a, a ≠ b → mT C4 a = mT C3 a ∧ mL C4 a = mL C3 a ∧ mR C4 a = mR C3 a ∧ mI C4 a = mI C3 a := fun a h => by
    rw [hC4]
    exact ⟨rfl, rfl, by funext k; exact wR_n (.inl h), rfl⟩
  have g3 : ∀ a, (a < b + 6 ∨ b + 92 ≤ a) → mT C3 a = mT C2 a ∧ mL C3 a = mL C2 a ∧ mR C3 a = mR C2 a ∧ mI C3 a = mI C2 a := fun a h => by
    rw [hC3]
    exact sh_o (by omega)
  have g2 : ∀ a, a ≠ b → mT C2 a = mT C1 a ∧ mL C2 a = mL C1 a ∧ mR C2 a = mR C1 a ∧ mI C2 a = mI C1 a := fun a h => by
    rw [hC2]
    exact ⟨rfl, rfl, by funext k; exact wR_n (.inl h), rfl⟩
  have g1 : ∀ a, (a < b + 1 ∨ b + 6 ≤ a) → mT C1 a = mT C0 a ∧ mL C1 a = mL C0 a ∧ mR C1 a = mR C0 a ∧ mI C1 a = mI C0 a := fun a h => by
    have h' : a < b + 1 ∨ b + 1 + 5 ≤ a := by omega
    rw [hC1]
    exact ⟨blk_o h', blk_o h', blk_o h', blk_o (F := fun _ _ => (0 : Int32)) h'⟩
  have g0 : ∀ a, a < b → mT C0 a = mT M a ∧ mL C0 a = mL M a ∧ mR C0 a = mR M a ∧ mI C0 a = mI M a := fun a h => by
    rw [hC0]
    exact ⟨if_neg (by omega), if_neg (by omega), if_neg (by omega), if_neg (by omega)⟩
  have tt : ∀ {A B C : Nat}, A = B → B = C → A = C := fun h g => h.trans g
  -- from C6 down to C3, to C1
  have d3 : ∀ a, a ≠ b → a < b + 92 → mT C6 a = mT C3 a ∧ mL C6 a = mL C3 a ∧ mR C6 a = mR C3 a ∧ mI C6 a = mI C3 a := fun a h h2 => by
    obtain ⟨x1, x2, x3, x4⟩ := g6 a h
    obtain ⟨y1, y2, y3, y4⟩ := g5 a (by omega)
    obtain ⟨z1, z2, z3, z4⟩ := g4 a h
    exact ⟨x1.trans (y1.trans z1), x2.trans (y2.trans z2), x3.trans (y3.trans z3), x4.trans (y4.trans z4)⟩
  have d1 : ∀ a, a ≠ b → a < b + 6 → mT C6 a = mT C1 a ∧ mL C6 a = mL C1 a ∧ mR C6 a = mR C1 a ∧ mI C6 a = mI C1 a := fun a h h2 => by
    obtain ⟨x1, x2, x3, x4⟩ := d3 a h (by omega)
    obtain ⟨y1, y2, y3, y4⟩ := g3 a (by omega)
    obtain ⟨z1, z2, z3, z4⟩ := g2 a h
    exact ⟨x1.trans (y1.trans z1), x2.trans (y2.trans z2), x3.trans (y3.trans z3), x4.trans (y4.trans z4)⟩
  have tb1 : mT C1 b = 10 := by rw [(g1 b (by omega)).1]; exact t0
  have tb3 : mT C3 b = 10 := by rw [(g3 b (by omega)).1, hC2]; exact tb1
  have tb5 : mT C5 b = 10 := by rw [(g5 b (by omega)).1, hC4]; exact tb3
  have tb6 : mT C6 b = 10 := by rw [hC6]; exact tb5
  have rb : ∀ k, mR C6 b k = if k = 2 then some (b + 92) else if k = 1 then some (b + 6) else if k = 0 then some (b + 1) else mR C1 b k := fun k => by
    rw [hC6]
    show (if b = b ∧ k = 2 then some (b + 92) else mR C5 b k) = _
    by_cases c : k = 2
    · rw [if_pos ⟨rfl, c⟩, if_pos c]
    · rw [if_neg (fun z => c z.2), if_neg c, (g5 b (by omega)).2.2.1, hC4]
      show (if b = b ∧ k = 1 then some (b + 6) else mR C3 b k) = _
      by_cases c : k = 1
      · rw [if_pos ⟨rfl, c⟩, if_pos c]
      · rw [if_neg (fun z => c z.2), if_neg c, (g3 b (by omega)).2.2.1, hC2]
        show (if b = b ∧ k = 0 then some (b + 1) else mR C1 b k) = _
        by_cases c : k = 0
        · rw [if_pos ⟨rfl, c⟩, if_pos c]
        · rw [if_neg (fun z => c z.2), if_neg c]
  have i1 : ∀ d, d < 86 → mI C6 (b + 6 + d) = IN d := fun d hd => by
    rw [(d3 (b + 6 + d) (by omega) (by omega)).2.2.2, hC3]
    exact sh_i hd
  have i2 : ∀ d, d < 86 → mI C6 (b + 92 + d) = IN d := fun d hd => by
    rw [(g6 (b + 92 + d) (by omega)).2.2.2, hC5]
    exact sh_i hd
  have n6 : mN C6 = b + 178 := by rw [hC6, hC5]; rfl
  have tp : ∀ d, d < 5 → mT C6 (b + 1 + d) = tpT d ∧ mL C6 (b + 1 + d) = tpL d ∧ mR C6 (b + 1 + d) = rTp (b + 1) 5 v d ∧ mI C6 (b + 1 + d) = fun _ => 0 := fun d hd => by
    obtain ⟨x1, x2, x3, x4⟩ := d1 (b + 1 + d) (by omega) (by omega)
    rw [x1, x2, x3, x4, hC1]
    exact ⟨blk_i hd, blk_i hd, blk_i hd, blk_i (F := fun _ _ => (0 : Int32)) (G := mI C0) (o := b + 1) hd⟩
  refine ⟨C6, ?_, n6, fun a ha => ?_, fun T => ?_, ?_, i1⟩
  · unfold f_X11_init b_X11_init_0
    rw [← hC0, lw_S, n0, bd_s h10, ck_t tb1, ← hC2, lw_S, lw_S, n2, bd_s h7, ck_t tb3, ← hC4, lw_S, lw_S, n4, bd_s h7', ck_t tb5, lw_S, ← hC6, lw_S]
  · obtain ⟨x1, x2, x3, x4⟩ := d1 a (by omega) (by omega)
    obtain ⟨y1, y2, y3, y4⟩ := g1 a (by omega)
    obtain ⟨z1, z2, z3, z4⟩ := g0 a ha
    exact ⟨x1.trans (y1.trans z1), x2.trans (y2.trans z2), x3.trans (y3.trans z3), x4.trans (y4.trans z4)⟩
  · refine ⟨⟨tb6, by rw [rb]; rfl, by rw [rb]; rfl, by rw [rb]; rfl⟩, .inl ⟨rfl, rfl⟩, ⟨⟨(tp 0 (by omega)).1, (tp 1 (by omega)).1, (tp 1 (by omega)).2.1, (tp 2 (by omega)).1, (tp 2 (by omega)).2.1, (tp 3 (by omega)).1, (tp 3 (by omega)).2.1, (tp 4 (by omega)).1, (tp 4 (by omega)).2.1⟩, ⟨?_, ?_, ?_, ?_⟩, ?_, by omega, fun q hq => absurd hq (by omega)⟩, ⟨?_, ?_, IN_FRS fun d _ hd => i1 d (by omega), IN_FRS fun d _ hd => i2 d (by omega), IN_PSz fun d _ hd => i1 d hd, IN_PSz fun d _ hd => i2 d hd⟩, by omega⟩
    · exact (congrFun (tp 0 (by omega)).2.2.1 1).trans rfl
    · exact (congrFun (tp 0 (by omega)).2.2.1 2).trans rfl
    · exact (congrFun (tp 0 (by omega)).2.2.1 3).trans rfl
    · exact (congrFun (tp 0 (by omega)).2.2.1 4).trans rfl
    · exact congrFun (tp 0 (by omega)).2.2.2 0
    · have L : LC (b + 6) C3 := by rw [hC3]; exact sh_LC
      exact LC_e L fun d hd => ⟨(d3 _ (by omega) (by omega)).1, (d3 _ (by omega) (by omega)).2.1, fun _ => (d3 _ (by omega) (by omega)).2.2.1⟩
    · have L : LC (b + 92) C5 := by rw [hC5]; exact sh_LC
      exact LC_e L fun d hd => ⟨(g6 _ (by omega)).1, (g6 _ (by omega)).2.1, fun _ => (g6 _ (by omega)).2.2.1⟩
  · rw [hC6]; exact wI_e _ _ _ _
