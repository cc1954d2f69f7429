/-! ## Pure: a Shore is made, whole -/
theorem sh_l115 {Z : Nat → Nat} {o : Nat} {w : Nat → Option Nat} {M : gMem} {N0 : Nat} (hN : N0 = o + 1) : ∀ j, j < 8 → bb_X7_init_115 N0 Z (shS o (18 + 2 * j) w (fun x => x < 18 + 2 * j) M) o (nI j) = some (.inl (shS o (18 + 2 * (j + 1)) w (fun x => x < 18 + 2 * (j + 1)) M, nI (j + 1))) := fun j hj => by
  have q1 : ¬ (8 : Int32) ≤ nI j := fun z => by have := (nI_leI (a := 8) (by omega) (by omega)).mp z; omega
  obtain ⟨n, hn⟩ : ∃ n, n = 18 + 2 * j := ⟨_, rfl⟩
  rw [← hn, show 18 + 2 * (j + 1) = n + 2 by omega]
  have tn : layT n = 3 := by rw [hn]; exact (by decide : ∀ j, j < 8 → layT (18 + 2 * j) = 3) j hj
  have ln : layL n = 0 := by rw [hn]; exact (by decide : ∀ j, j < 8 → layL (18 + 2 * j) = 0) j hj
  have rr : layR 1 j = some n := by rw [hn]; exact (by decide : ∀ j, j < 8 → layR 1 j = some (18 + 2 * j)) j hj
  have rn : layR n 3 = some (n + 1) := by rw [hn]; exact (by decide : ∀ j, j < 8 → layR (18 + 2 * j) 3 = some (18 + 2 * j + 1)) j hj
  have t1 : layT (n + 1) = 20 := by rw [hn]; exact (by decide : ∀ j, j < 8 → layT (18 + 2 * j + 1) = 20) j hj
  have l1 : layL (n + 1) = 6 := by rw [hn]; exact (by decide : ∀ j, j < 8 → layL (18 + 2 * j + 1) = 6) j hj
  have i1 : IN (n + 1) = fun _ => 0 := by funext k; unfold IN; rw [if_neg (by omega), if_neg (by omega), if_neg (by omega)]
  have i0 : IN n = fun _ => 0 := by funext k; unfold IN; rw [if_neg (by omega), if_neg (by omega), if_neg (by omega)]
  have x3 := sh_x3 (o := o) (n := n) (w := w) (P := fun x => x < n) (M := M) tn rn t1 l1 i1 (fun x hx => by omega) (by omega)
  have wr : wR (shS o (n + 2) w (fun x => x < n ∨ x = n + 1) M) (o + 1) j (some (o + n)) = shS o (n + 2) w (fun x => x < n + 2) M := by
    rw [sh_R (by omega) rr (by omega)]
    exact sh_c (fun x => show ((x < n ∨ x = n + 1) ∨ x = n) ↔ x < n + 2 by omega)
  unfold bb_X7_init_115
  rw [if_neg q1, ck_t (c := mT (shS o n w (fun x => x < n) M) o = 7) (sh_t (d := 0) (by omega)), ck_t (c := mN (shS o n w (fun x => x < n) M) + 1 ≤ N0 + 90) (show o + n + 1 ≤ N0 + 90 by omega), lw_S, sh_nw tn ln i0 (fun x hx => by omega) (fun z => absurd z (by omega)), ck_t (c := mN (shS o (n + 1) w (fun x => x < n) M) + 1 ≤ N0 + 90) (show o + (n + 1) + 1 ≤ N0 + 90 by omega), show mN (shS o n w (fun x => x < n) M) = o + n from rfl, bd_s x3, ck_t (c := mN (shS o (n + 2) w (fun x => x < n ∨ x = n + 1) M) = mN (shS o (n + 1) w (fun x => x < n) M) + 1) (show o + (n + 2) = o + (n + 1) + 1 by omega), dr_s (show mR (shS o n w (fun x => x < n) M) o 6 = some (o + 1) from sh_r (d := 0) (by omega) rfl (by omega) (show 1 < n by omega)), ck_t (c := mT (shS o (n + 2) w (fun x => x < n ∨ x = n + 1) M) (o + 1) = 23) (sh_t (by omega)), ck_t (c := inb (nI j) (mL (shS o (n + 2) w (fun x => x < n ∨ x = n + 1) M) (o + 1))) (by rw [show mL (shS o (n + 2) w (fun x => x < n ∨ x = n + 1) M) (o + 1) = 8 from sh_l (by omega)]; exact (inbN (by omega)).mpr hj), ck_t (c := mT (shS o (n + 2) w (fun x => x < n ∨ x = n + 1) M) (o + n) = 3) ((sh_t (by omega)).trans tn), lw_S, nI_clamp (by omega), wr, nI_1]
theorem sh_l142 {Z : Nat → Nat} {o : Nat} {w : Nat → Option Nat} {M : gMem} {N0 : Nat} (hN : N0 = o + 1) : ∀ j, j < 8 → bb_X7_init_142 N0 Z (shS o (34 + 2 * j) w (fun x => x < 34 + 2 * j) M) o (nI j) = some (.inl (shS o (34 + 2 * (j + 1)) w (fun x => x < 34 + 2 * (j + 1)) M, nI (j + 1))) := fun j hj => by
  have q1 : ¬ (8 : Int32) ≤ nI j := fun z => by have := (nI_leI (a := 8) (by omega) (by omega)).mp z; omega
  obtain ⟨n, hn⟩ : ∃ n, n = 34 + 2 * j := ⟨_, rfl⟩
  rw [← hn, show 34 + 2 * (j + 1) = n + 2 by omega]
  have tn : layT n = 1 := by rw [hn]; exact (by decide : ∀ j, j < 8 → layT (34 + 2 * j) = 1) j hj
  have ln : layL n = 0 := by rw [hn]; exact (by decide : ∀ j, j < 8 → layL (34 + 2 * j) = 0) j hj
  have rr : layR 2 j = some n := by rw [hn]; exact (by decide : ∀ j, j < 8 → layR 2 j = some (34 + 2 * j)) j hj
  have rn : layR n 10 = some (n + 1) := by rw [hn]; exact (by decide : ∀ j, j < 8 → layR (34 + 2 * j) 10 = some (34 + 2 * j + 1)) j hj
  have t1 : layT (n + 1) = 20 := by rw [hn]; exact (by decide : ∀ j, j < 8 → layT (34 + 2 * j + 1) = 20) j hj
  have l1 : layL (n + 1) = 8 := by rw [hn]; exact (by decide : ∀ j, j < 8 → layL (34 + 2 * j + 1) = 8) j hj
  have i1 : IN (n + 1) = fun _ => 0 := by funext k; unfold IN; rw [if_neg (by omega), if_neg (by omega), if_neg (by omega)]
  have i0 : IN n = fun j => if j = 6 then -1 else 0 := by funext k; unfold IN; rw [if_neg (by omega), if_pos (by omega)]
  have x3 := sh_x1 (o := o) (n := n) (w := w) (P := fun x => x < n) (M := M) tn rn t1 l1 i0 i1 (fun x hx => by omega) (by omega)
  have wr : wR (shS o (n + 2) w (fun x => x < n ∨ x = n + 1) M) (o + 2) j (some (o + n)) = shS o (n + 2) w (fun x => x < n + 2) M := by
    rw [sh_R (by omega) rr (by omega)]
    exact sh_c (fun x => show ((x < n ∨ x = n + 1) ∨ x = n) ↔ x < n + 2 by omega)
  unfold bb_X7_init_142
  rw [if_neg q1, ck_t (c := mT (shS o n w (fun x => x < n) M) o = 7) (sh_t (d := 0) (by omega)), ck_t (c := mN (shS o n w (fun x => x < n) M) + 1 ≤ N0 + 90) (show o + n + 1 ≤ N0 + 90 by omega), lw_S, sh_nZ tn ln (fun x hx => by omega) (by omega), ck_t (c := mN (shZ o n w (fun x => x < n) M) + 1 ≤ N0 + 90) (show o + (n + 1) + 1 ≤ N0 + 90 by omega), show mN (shS o n w (fun x => x < n) M) = o + n from rfl, bd_s x3, ck_t (c := mN (shS o (n + 2) w (fun x => x < n ∨ x = n + 1) M) = mN (shZ o n w (fun x => x < n) M) + 1) (show o + (n + 2) = o + (n + 1) + 1 by omega), dr_s (show mR (shS o n w (fun x => x < n) M) o 7 = some (o + 2) from sh_r (d := 0) (by omega) rfl (by omega) (show 2 < n by omega)), ck_t (c := mT (shS o (n + 2) w (fun x => x < n ∨ x = n + 1) M) (o + 2) = 24) (sh_t (by omega)), ck_t (c := inb (nI j) (mL (shS o (n + 2) w (fun x => x < n ∨ x = n + 1) M) (o + 2))) (by rw [show mL (shS o (n + 2) w (fun x => x < n ∨ x = n + 1) M) (o + 2) = 8 from sh_l (by omega)]; exact (inbN (by omega)).mpr hj), ck_t (c := mT (shS o (n + 2) w (fun x => x < n ∨ x = n + 1) M) (o + n) = 1) ((sh_t (by omega)).trans tn), lw_S, nI_clamp (by omega), wr, nI_1]
theorem sh_l169 {Z : Nat → Nat} {o : Nat} {w : Nat → Option Nat} {M : gMem} {N0 : Nat} (hN : N0 = o + 1) : ∀ j, j < 24 → bb_X7_init_169 N0 Z (shS o (50 + 1 * j) w (fun x => x < 50 + 1 * j) M) o (nI j) = some (.inl (shS o (50 + 1 * (j + 1)) w (fun x => x < 50 + 1 * (j + 1)) M, nI (j + 1))) := fun j hj => by
  have q1 : ¬ (24 : Int32) ≤ nI j := fun z => by have := (nI_leI (a := 24) (by omega) (by omega)).mp z; omega
  obtain ⟨n, hn⟩ : ∃ n, n = 50 + 1 * j := ⟨_, rfl⟩
  rw [← hn, show 50 + 1 * (j + 1) = n + 1 by omega]
  have tn : layT n = 2 := by rw [hn]; exact (by decide : ∀ j, j < 24 → layT (50 + 1 * j) = 2) j hj
  have ln : layL n = 0 := by rw [hn]; exact (by decide : ∀ j, j < 24 → layL (50 + 1 * j) = 0) j hj
  have rr : layR 3 j = some n := by rw [hn]; exact (by decide : ∀ j, j < 24 → layR 3 j = some (50 + 1 * j)) j hj
  have i0 : IN n = fun _ => 0 := by funext k; unfold IN; rw [if_neg (by omega), if_neg (by omega), if_neg (by omega)]
  have x3 : f_X2_init (shS o (n + 1) w (fun x => x < n) M) (o + n) = some ((), shS o (n + 1) w (fun x => x < n) M) := rfl
  have wr : wR (shS o (n + 1) w (fun x => x < n) M) (o + 3) j (some (o + n)) = shS o (n + 1) w (fun x => x < n + 1) M := by
    rw [sh_R (by omega) rr (by omega)]
    exact sh_c (fun x => show ((x < n) ∨ x = n) ↔ x < n + 1 by omega)
  unfold bb_X7_init_169
  rw [if_neg q1, ck_t (c := mT (shS o n w (fun x => x < n) M) o = 7) (sh_t (d := 0) (by omega)), ck_t (c := mN (shS o n w (fun x => x < n) M) + 1 ≤ N0 + 90) (show o + n + 1 ≤ N0 + 90 by omega), lw_S, sh_nw tn ln i0 (fun x hx => by omega) (fun z => absurd z (by omega)), ck_t (c := mN (shS o (n + 1) w (fun x => x < n) M) + 0 ≤ N0 + 90) (show o + (n + 1) + 0 ≤ N0 + 90 by omega), show mN (shS o n w (fun x => x < n) M) = o + n from rfl, bd_s x3, ck_t (c := mN (shS o (n + 1) w (fun x => x < n) M) = mN (shS o (n + 1) w (fun x => x < n) M) + 0) (show o + (n + 1) = o + (n + 1) + 0 by omega), dr_s (show mR (shS o n w (fun x => x < n) M) o 8 = some (o + 3) from sh_r (d := 0) (by omega) rfl (by omega) (show 3 < n by omega)), ck_t (c := mT (shS o (n + 1) w (fun x => x < n) M) (o + 3) = 25) (sh_t (by omega)), ck_t (c := inb (nI j) (mL (shS o (n + 1) w (fun x => x < n) M) (o + 3))) (by rw [show mL (shS o (n + 1) w (fun x => x < n) M) (o + 3) = 24 from sh_l (by omega)]; exact (inbN (by omega)).mpr hj), ck_t (c := mT (shS o (n + 1) w (fun x => x < n) M) (o + n) = 2) ((sh_t (by omega)).trans tn), lw_S, nI_clamp (by omega), wr, nI_1]
theorem sh_l196 {Z : Nat → Nat} {o : Nat} {w : Nat → Option Nat} {M : gMem} {N0 : Nat} (hN : N0 = o + 1) : ∀ j, j < 6 → bb_X7_init_196 N0 Z (shS o (74 + 2 * j) w (fun x => x < 74 + 2 * j) M) o (nI j) = some (.inl (shS o (74 + 2 * (j + 1)) w (fun x => x < 74 + 2 * (j + 1)) M, nI (j + 1))) := fun j hj => by
  have q1 : ¬ (6 : Int32) ≤ nI j := fun z => by have := (nI_leI (a := 6) (by omega) (by omega)).mp z; omega
  obtain ⟨n, hn⟩ : ∃ n, n = 74 + 2 * j := ⟨_, rfl⟩
  rw [← hn, show 74 + 2 * (j + 1) = n + 2 by omega]
  have tn : layT n = 5 := by rw [hn]; exact (by decide : ∀ j, j < 6 → layT (74 + 2 * j) = 5) j hj
  have ln : layL n = 0 := by rw [hn]; exact (by decide : ∀ j, j < 6 → layL (74 + 2 * j) = 0) j hj
  have rr : layR 4 j = some n := by rw [hn]; exact (by decide : ∀ j, j < 6 → layR 4 j = some (74 + 2 * j)) j hj
  have rn : layR n 4 = some (n + 1) := by rw [hn]; exact (by decide : ∀ j, j < 6 → layR (74 + 2 * j) 4 = some (74 + 2 * j + 1)) j hj
  have t1 : layT (n + 1) = 20 := by rw [hn]; exact (by decide : ∀ j, j < 6 → layT (74 + 2 * j + 1) = 20) j hj
  have l1 : layL (n + 1) = 8 := by rw [hn]; exact (by decide : ∀ j, j < 6 → layL (74 + 2 * j + 1) = 8) j hj
  have i1 : IN (n + 1) = fun _ => 0 := by funext k; unfold IN; rw [if_neg (by omega), if_neg (by omega), if_neg (by omega)]
  have i0 : IN n = fun j => if j = 0 then -1 else 0 := by funext k; unfold IN; rw [if_neg (by omega), if_neg (by omega), if_pos (by omega)]
  have x3 := sh_x5 (o := o) (n := n) (w := w) (P := fun x => x < n) (M := M) tn rn t1 l1 i0 i1 (fun x hx => by omega) (by omega)
  have wr : wR (shS o (n + 2) w (fun x => x < n ∨ x = n + 1) M) (o + 4) j (some (o + n)) = shS o (n + 2) w (fun x => x < n + 2) M := by
    rw [sh_R (by omega) rr (by omega)]
    exact sh_c (fun x => show ((x < n ∨ x = n + 1) ∨ x = n) ↔ x < n + 2 by omega)
  unfold bb_X7_init_196
  rw [if_neg q1, ck_t (c := mT (shS o n w (fun x => x < n) M) o = 7) (sh_t (d := 0) (by omega)), ck_t (c := mN (shS o n w (fun x => x < n) M) + 1 ≤ N0 + 90) (show o + n + 1 ≤ N0 + 90 by omega), lw_S, sh_nZ tn ln (fun x hx => by omega) (by omega), ck_t (c := mN (shZ o n w (fun x => x < n) M) + 1 ≤ N0 + 90) (show o + (n + 1) + 1 ≤ N0 + 90 by omega), show mN (shS o n w (fun x => x < n) M) = o + n from rfl, bd_s x3, ck_t (c := mN (shS o (n + 2) w (fun x => x < n ∨ x = n + 1) M) = mN (shZ o n w (fun x => x < n) M) + 1) (show o + (n + 2) = o + (n + 1) + 1 by omega), dr_s (show mR (shS o n w (fun x => x < n) M) o 9 = some (o + 4) from sh_r (d := 0) (by omega) rfl (by omega) (show 4 < n by omega)), ck_t (c := mT (shS o (n + 2) w (fun x => x < n ∨ x = n + 1) M) (o + 4) = 26) (sh_t (by omega)), ck_t (c := inb (nI j) (mL (shS o (n + 2) w (fun x => x < n ∨ x = n + 1) M) (o + 4))) (by rw [show mL (shS o (n + 2) w (fun x => x < n ∨ x = n + 1) M) (o + 4) = 6 from sh_l (by omega)]; exact (inbN (by omega)).mpr hj), ck_t (c := mT (shS o (n + 2) w (fun x => x < n ∨ x = n + 1) M) (o + n) = 5) ((sh_t (by omega)).trans tn), lw_S, nI_clamp (by omega), wr, nI_1]
/-- a new Shore at the next address -/
theorem X7_new {Z : Nat → Nat} {M : gMem} {o : Nat} (e : mN M = o) : ∃ w, f_X7_init Z (nW M 7 0) o = some ((), shS o 86 w (fun x => x < 86) M) := by
  obtain ⟨w, h9⟩ := sh_x9 (Z := Z) (o := o) (M := M)
  refine ⟨w, ?_⟩
  have s0 : nW M 7 0 = shZ o 0 (fun _ => none) (fun x => x < 1) M := by
    have z : M = shS o 0 (fun _ => none) (fun x => x < 1) M := mkB_0 e
    rw (occs := .pos [1]) [z]
    exact sh_nZ rfl rfl (fun x hx => by omega) (by omega)
  have n0 : mN (nW M 7 0) = o + 1 := by rw [← e]; rfl
  have i1 : wI (shZ o 0 (fun _ => none) (fun x => x < 1) M) o 1 1 = shS o 1 (fun _ => none) (fun x => x < 1) M := sh_ZI (n := 0) (by funext k; rfl)
  have l4 : ∀ N0, N0 = o + 1 → lp_X7_init_196 N0 Z (shS o 74 w (fun x => x < 74) M) o (nI 0) = some ((), shS o 86 w (fun x => x < 86) M) := fun N0 hN => by
    unfold lp_X7_init_196
    refine lp_seq (f := fun (q : gMem × Int32) => bb_X7_init_196 N0 Z q.1 o q.2) (fun j => (shS o (74 + 2 * j) w (fun x => x < 74 + 2 * j) M, nI j)) 0 6 (by omega) (fun j _ hj => sh_l196 hN j hj) ?_
    show bb_X7_init_196 N0 Z (shS o 86 w (fun x => x < 86) M) o (nI 6) = _
    unfold bb_X7_init_196
    rw [if_pos (by decide), ck_t (c := mN (shS o 86 w (fun x => x < 86) M) ≤ N0 + 90) (show o + 86 ≤ N0 + 90 by omega)]
    rfl
  have l3 : ∀ N0, N0 = o + 1 → lp_X7_init_169 N0 Z (shS o 50 w (fun x => x < 50) M) o (nI 0) = some ((), shS o 86 w (fun x => x < 86) M) := fun N0 hN => by
    unfold lp_X7_init_169
    refine lp_seq (f := fun (q : gMem × Int32) => bb_X7_init_169 N0 Z q.1 o q.2) (fun j => (shS o (50 + 1 * j) w (fun x => x < 50 + 1 * j) M, nI j)) 0 24 (by omega) (fun j _ hj => sh_l169 hN j hj) ?_
    show bb_X7_init_169 N0 Z (shS o 74 w (fun x => x < 74) M) o (nI 24) = _
    unfold bb_X7_init_169
    rw [if_pos (by decide), show (0 : Int32) = nI 0 from rfl, l4 N0 hN]
    rfl
  have l2 : ∀ N0, N0 = o + 1 → lp_X7_init_142 N0 Z (shS o 34 w (fun x => x < 34) M) o (nI 0) = some ((), shS o 86 w (fun x => x < 86) M) := fun N0 hN => by
    unfold lp_X7_init_142
    refine lp_seq (f := fun (q : gMem × Int32) => bb_X7_init_142 N0 Z q.1 o q.2) (fun j => (shS o (34 + 2 * j) w (fun x => x < 34 + 2 * j) M, nI j)) 0 8 (by omega) (fun j _ hj => sh_l142 hN j hj) ?_
    show bb_X7_init_142 N0 Z (shS o 50 w (fun x => x < 50) M) o (nI 8) = _
    unfold bb_X7_init_142
    rw [if_pos (by decide), show (0 : Int32) = nI 0 from rfl, l3 N0 hN]
    rfl
  have l1 : ∀ N0, N0 = o + 1 → lp_X7_init_115 N0 Z (shS o 18 w (fun x => x < 18) M) o (nI 0) = some ((), shS o 86 w (fun x => x < 86) M) := fun N0 hN => by
    unfold lp_X7_init_115
    refine lp_seq (f := fun (q : gMem × Int32) => bb_X7_init_115 N0 Z q.1 o q.2) (fun j => (shS o (18 + 2 * j) w (fun x => x < 18 + 2 * j) M, nI j)) 0 8 (by omega) (fun j _ hj => sh_l115 hN j hj) ?_
    show bb_X7_init_115 N0 Z (shS o 34 w (fun x => x < 34) M) o (nI 8) = _
    unfold bb_X7_init_115
    rw [if_pos (by decide), show (0 : Int32) = nI 0 from rfl, l2 N0 hN]
    rfl
  -- the Sums
  have r5 : wR (shS o 9 w (fun x => x < 5 ∨ (6 ≤ x ∧ x < 9)) M) o 10 (some (o + 5)) = shS o 9 w (fun x => x < 9) M := by
    refine (sh_R (d := 0) (by omega) (show layR 0 10 = some 5 from rfl) (by omega)).trans ?_
    exact sh_c (fun x => show ((x < 5 ∨ (6 ≤ x ∧ x < 9)) ∨ x = 5) ↔ x < 9 by omega)
  have x12 := sh_x3 (o := o) (n := 12) (w := w) (P := fun x => x < 12) (M := M) rfl rfl rfl rfl (by funext k; rfl) (fun x hx => by omega) (by omega)
  have r12 : wR (shS o (12 + 2) w (fun x => x < 12 ∨ x = 12 + 1) M) o 14 (some (o + 12)) = shS o 14 w (fun x => x < 14) M := by
    refine (sh_R (d := 0) (by omega) (show layR 0 14 = some 12 from rfl) (by omega)).trans ?_
    exact sh_c (fun x => show ((x < 12 ∨ x = 12 + 1) ∨ x = 12) ↔ x < 14 by omega)
  have x14 := sh_x1 (o := o) (n := 14) (w := w) (P := fun x => x < 14) (M := M) rfl rfl rfl rfl (by funext k; rfl) (by funext k; rfl) (fun x hx => by omega) (by omega)
  have r14 : wR (shS o (14 + 2) w (fun x => x < 14 ∨ x = 14 + 1) M) o 15 (some (o + 14)) = shS o 16 w (fun x => x < 16) M := by
    refine (sh_R (d := 0) (by omega) (show layR 0 15 = some 14 from rfl) (by omega)).trans ?_
    exact sh_c (fun x => show ((x < 14 ∨ x = 14 + 1) ∨ x = 14) ↔ x < 16 by omega)
  have x16 := sh_x5 (o := o) (n := 16) (w := w) (P := fun x => x < 16) (M := M) rfl rfl rfl rfl (by funext k; rfl) (by funext k; rfl) (fun x hx => by omega) (by omega)
  have r16 : wR (shS o (16 + 2) w (fun x => x < 16 ∨ x = 16 + 1) M) o 16 (some (o + 16)) = shS o 18 w (fun x => x < 18) M := by
    refine (sh_R (d := 0) (by omega) (show layR 0 16 = some 16 from rfl) (by omega)).trans ?_
    exact sh_c (fun x => show ((x < 16 ∨ x = 16 + 1) ∨ x = 16) ↔ x < 18 by omega)
  unfold f_X7_init b_X7_init_0
  rw [n0, s0, ck_t (c := mT (shZ o 0 (fun _ => none) (fun x => x < 1) M) o = 7) (blk_i (d := 0) (Nat.lt_succ_self 0)), lw_S, i1]
  rw [sh_arr (n := 1) (t := 23) (l := ((8 : Int32)).toNatClampNeg) (k := 6) rfl (by omega) rfl rfl rfl (by funext k; rfl)]
  rw [sh_arr (n := 1 + 1) (t := 24) (l := ((8 : Int32)).toNatClampNeg) (k := 7) rfl (by omega) rfl rfl rfl (by funext k; rfl)]
  rw [sh_arr (n := 1 + 1 + 1) (t := 25) (l := ((24 : Int32)).toNatClampNeg) (k := 8) rfl (by omega) rfl rfl rfl (by funext k; rfl)]
  rw [sh_arr (n := 1 + 1 + 1 + 1) (t := 26) (l := ((6 : Int32)).toNatClampNeg) (k := 9) rfl (by omega) rfl rfl rfl (by funext k; rfl)]
  show (ck (mN (shS o 5 (fun _ => none) (fun x => x < 5) M) + 1 ≤ o + 1 + 90) <| lw (nW (shS o 5 (fun _ => none) (fun x => x < 5) M) 8 0) fun M82 => _) = _
  rw [ck_t (c := mN (shS o 5 (fun _ => none) (fun x => x < 5) M) + 1 ≤ o + 1 + 90) (show o + 5 + 1 ≤ o + 1 + 90 by omega), lw_S, sh_nw (n := 5) (t := 8) (l := 0) rfl rfl (by funext k; rfl) (fun x hx => by omega) (fun _ => rfl), ck_t (c := mN (shS o (5 + 1) (fun _ => none) (fun x => x < 5) M) + 3 ≤ o + 1 + 90) (show o + 6 + 3 ≤ o + 1 + 90 by omega)]
  rw [show f_X9_init Z (shS o (5 + 1) (fun _ => none) (fun x => x < 5) M) (mN (shS o 5 (fun _ => none) (fun x => x < 5) M)) = _ from h9, bd_S, ck_t (c := mN (shS o 9 w (fun x => x < 5 ∨ (6 ≤ x ∧ x < 9)) M) = mN (shS o (5 + 1) (fun _ => none) (fun x => x < 5) M) + 3) (show o + 9 = o + 6 + 3 by omega), ck_t (c := mT (shS o 9 w (fun x => x < 5 ∨ (6 ≤ x ∧ x < 9)) M) o = 7) (sh_t (d := 0) (by omega)), show some (mN (shS o 5 (fun _ => none) (fun x => x < 5) M)) = some (o + 5) from rfl, r5, lw_S]
  rw [sh_arr (n := 9) (t := 20) (l := ((8 : Int32)).toNatClampNeg) (k := 11) rfl (by omega) rfl rfl rfl (by funext k; rfl)]
  rw [sh_arr (n := 9 + 1) (t := 20) (l := ((8 : Int32)).toNatClampNeg) (k := 12) rfl (by omega) rfl rfl rfl (by funext k; rfl)]
  rw [sh_arr (n := 9 + 1 + 1) (t := 20) (l := ((6 : Int32)).toNatClampNeg) (k := 13) rfl (by omega) rfl rfl rfl (by funext k; rfl)]
  show (ck (mN (shS o 12 w (fun x => x < 12) M) + 1 ≤ o + 1 + 90) <| lw (nW (shS o 12 w (fun x => x < 12) M) 3 0) fun M82 => _) = _
  rw [ck_t (c := mN (shS o 12 w (fun x => x < 12) M) + 1 ≤ o + 1 + 90) (show o + 12 + 1 ≤ o + 1 + 90 by omega), lw_S, sh_nw (n := 12) (t := 3) (l := 0) rfl rfl (by funext k; rfl) (fun x hx => by omega) (fun z => absurd z (by omega)), ck_t (c := mN (shS o (12 + 1) w (fun x => x < 12) M) + 1 ≤ o + 1 + 90) (show o + 13 + 1 ≤ o + 1 + 90 by omega)]
  rw [show f_X3_init (shS o (12 + 1) w (fun x => x < 12) M) (mN (shS o 12 w (fun x => x < 12) M)) = _ from x12, bd_S, ck_t (c := mN (shS o (12 + 2) w (fun x => x < 12 ∨ x = 12 + 1) M) = mN (shS o (12 + 1) w (fun x => x < 12) M) + 1) (show o + 14 = o + 13 + 1 by omega), ck_t (c := mT (shS o (12 + 2) w (fun x => x < 12 ∨ x = 12 + 1) M) o = 7) (sh_t (d := 0) (by omega)), show some (mN (shS o 12 w (fun x => x < 12) M)) = some (o + 12) from rfl, r12, lw_S]
  rw [ck_t (c := mN (shS o 14 w (fun x => x < 14) M) + 1 ≤ o + 1 + 90) (show o + 14 + 1 ≤ o + 1 + 90 by omega), lw_S, sh_nZ (n := 14) (t := 1) rfl rfl (fun x hx => by omega) (by omega), ck_t (c := mN (shZ o 14 w (fun x => x < 14) M) + 1 ≤ o + 1 + 90) (show o + 15 + 1 ≤ o + 1 + 90 by omega)]
  rw [show f_X1_init (shZ o 14 w (fun x => x < 14) M) (mN (shS o 14 w (fun x => x < 14) M)) = _ from x14, bd_S, ck_t (c := mN (shS o (14 + 2) w (fun x => x < 14 ∨ x = 14 + 1) M) = mN (shZ o 14 w (fun x => x < 14) M) + 1) (show o + 16 = o + 15 + 1 by omega), ck_t (c := mT (shS o (14 + 2) w (fun x => x < 14 ∨ x = 14 + 1) M) o = 7) (sh_t (d := 0) (by omega)), show some (mN (shS o 14 w (fun x => x < 14) M)) = some (o + 14) from rfl, r14, lw_S]
  rw [ck_t (c := mN (shS o 16 w (fun x => x < 16) M) + 1 ≤ o + 1 + 90) (show o + 16 + 1 ≤ o + 1 + 90 by omega), lw_S, sh_nZ (n := 16) (t := 5) rfl rfl (fun x hx => by omega) (by omega), ck_t (c := mN (shZ o 16 w (fun x => x < 16) M) + 1 ≤ o + 1 + 90) (show o + 17 + 1 ≤ o + 1 + 90 by omega)]
  rw [show f_X5_init (shZ o 16 w (fun x => x < 16) M) (mN (shS o 16 w (fun x => x < 16) M)) = _ from x16, bd_S, ck_t (c := mN (shS o (16 + 2) w (fun x => x < 16 ∨ x = 16 + 1) M) = mN (shZ o 16 w (fun x => x < 16) M) + 1) (show o + 18 = o + 17 + 1 by omega), ck_t (c := mT (shS o (16 + 2) w (fun x => x < 16 ∨ x = 16 + 1) M) o = 7) (sh_t (d := 0) (by omega)), show some (mN (shS o 16 w (fun x => x < 16) M)) = some (o + 16) from rfl, r16, lw_S]
  exact l1 (o + 1) rfl

