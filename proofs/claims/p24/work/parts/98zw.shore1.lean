/-! ## Pure: a Shore is made, step by step -/
theorem sh_nw {o n t l : Nat} {w : Nat → Option Nat} {P : Nat → Prop} {M : gMem} (ht : layT n = t) (hl : layL n = l) (hi : IN n = fun _ => 0) (hP : ∀ x, P x → x ≤ n) (h6 : n = 6 → w = fun _ => none) : nW (shS o n w P M) t l = shS o (n + 1) w P M := mkB_n ht hl hi (rSh_n hP h6)
theorem sh_R {o n d k e : Nat} {w : Nat → Option Nat} {P : Nat → Prop} {M : gMem} (hd : d < n) (h : layR d k = some e) (h6 : d ≠ 6) : wR (shS o n w P M) (o + d) k (some (o + e)) = shS o n w (fun x => P x ∨ x = e) M := by
  unfold shS
  rw [mkB_R hd, rSh_u h h6]
theorem sh_c {o n : Nat} {w : Nat → Option Nat} {P Q : Nat → Prop} {M : gMem} (h : ∀ x, P x ↔ Q x) : shS o n w P M = shS o n w Q M := by
  unfold shS
  rw [rSh_c h]
noncomputable def shZ (o n : Nat) (w : Nat → Option Nat) (P : Nat → Prop) (M : gMem) : gMem := mkB o (n + 1) layT layL (up1 IN n (fun _ => 0)) (rSh o w P) M
theorem sh_nZ {o n t : Nat} {w : Nat → Option Nat} {P : Nat → Prop} {M : gMem} (ht : layT n = t) (hl : layL n = 0) (hP : ∀ x, P x → x ≤ n) (h6 : n ≠ 6) : nW (shS o n w P M) t 0 = shZ o n w P M := by
  have e : shS o n w P M = mkB o n layT layL (up1 IN n (fun _ => 0)) (rSh o w P) M := by
    unfold shS mkB
    rw [blk_c (F := IN) (F' := up1 IN n (fun _ => 0)) (fun d hd => (up1_o (by omega)).symm)]
  rw [e]
  exact mkB_n ht hl (up1_e _ _ _) (rSh_n hP (fun z => absurd z h6))
theorem sh_ZI {o n k : Nat} {v : Int32} {w : Nat → Option Nat} {P : Nat → Prop} {M : gMem} (hi : IN n = fun j => if j = k then v else 0) : wI (shZ o n w P M) (o + n) k v = shS o (n + 1) w P M := by
  have e : up2 (up1 IN n (fun _ => 0)) n k v = IN := by
    funext d j
    by_cases c : d = n
    · subst c
      by_cases c2 : j = k
      · subst c2; rw [up2_eq, hi]; exact (if_pos rfl).symm
      · rw [up2_ne (.inr c2), up1_e, hi]; exact (if_neg c2).symm
    · rw [up2_ne (.inl c), up1_o c]
  unfold shZ
  rw [mkB_I (Nat.lt_succ_self n), e]
  rfl
theorem sh_t {o n d : Nat} {w : Nat → Option Nat} {P : Nat → Prop} {M : gMem} (h : d < n) : mT (shS o n w P M) (o + d) = layT d := blk_i h
theorem sh_l {o n d : Nat} {w : Nat → Option Nat} {P : Nat → Prop} {M : gMem} (h : d < n) : mL (shS o n w P M) (o + d) = layL d := blk_i h
theorem sh_r {o n d k e : Nat} {w : Nat → Option Nat} {P : Nat → Prop} {M : gMem} (hd : d < n) (h : layR d k = some e) (h6 : d ≠ 6) (p : P e) : mR (shS o n w P M) (o + d) k = some (o + e) := by
  have : mR (shS o n w P M) (o + d) = rSh o w P d := blk_i hd
  rw [this]
  exact rSh_v h h6 p
theorem sh_x3 {o n : Nat} {w : Nat → Option Nat} {P : Nat → Prop} {M : gMem} (t : layT n = 3) (r : layR n 3 = some (n + 1)) (t1 : layT (n + 1) = 20) (l1 : layL (n + 1) = 6) (i1 : IN (n + 1) = fun _ => 0) (hP : ∀ x, P x → x ≤ n + 1) (h6 : n ≠ 6 ∧ n ≠ 5) : f_X3_init (shS o (n + 1) w P M) (o + n) = some ((), shS o (n + 2) w (fun x => P x ∨ x = n + 1) M) := by
  unfold f_X3_init b_X3_init_0
  rw [lw_S, show ((6 : Int32)).toNatClampNeg = 6 from rfl, sh_nw t1 l1 i1 hP (fun z => absurd z (by omega)), ck_t ((sh_t (by omega)).trans t), lw_S, show some (mN (shS o (n + 1) w P M)) = some (o + (n + 1)) from rfl, sh_R (by omega) r h6.1]
theorem sh_x1 {o n : Nat} {w : Nat → Option Nat} {P : Nat → Prop} {M : gMem} (t : layT n = 1) (r : layR n 10 = some (n + 1)) (t1 : layT (n + 1) = 20) (l1 : layL (n + 1) = 8) (i0 : IN n = fun j => if j = 6 then -1 else 0) (i1 : IN (n + 1) = fun _ => 0) (hP : ∀ x, P x → x ≤ n + 1) (h6 : n ≠ 6 ∧ n ≠ 5) : f_X1_init (shZ o n w P M) (o + n) = some ((), shS o (n + 2) w (fun x => P x ∨ x = n + 1) M) := by
  unfold f_X1_init b_X1_init_0
  rw [ck_t (show mT (shZ o n w P M) (o + n) = 1 from (blk_i (Nat.lt_succ_self n)).trans t), lw_S, sh_ZI i0, lw_S, show ((8 : Int32)).toNatClampNeg = 8 from rfl, sh_nw t1 l1 i1 hP (fun z => absurd z (by omega)), ck_t ((sh_t (by omega)).trans t), lw_S, show some (mN (shS o (n + 1) w P M)) = some (o + (n + 1)) from rfl, sh_R (by omega) r h6.1]
theorem sh_x5 {o n : Nat} {w : Nat → Option Nat} {P : Nat → Prop} {M : gMem} (t : layT n = 5) (r : layR n 4 = some (n + 1)) (t1 : layT (n + 1) = 20) (l1 : layL (n + 1) = 8) (i0 : IN n = fun j => if j = 0 then -1 else 0) (i1 : IN (n + 1) = fun _ => 0) (hP : ∀ x, P x → x ≤ n + 1) (h6 : n ≠ 6 ∧ n ≠ 5) : f_X5_init (shZ o n w P M) (o + n) = some ((), shS o (n + 2) w (fun x => P x ∨ x = n + 1) M) := by
  unfold f_X5_init b_X5_init_0
  rw [ck_t (show mT (shZ o n w P M) (o + n) = 5 from (blk_i (Nat.lt_succ_self n)).trans t), lw_S, sh_ZI i0, lw_S, show ((8 : Int32)).toNatClampNeg = 8 from rfl, sh_nw t1 l1 i1 hP (fun z => absurd z (by omega)), ck_t ((sh_t (by omega)).trans t), lw_S, show some (mN (shS o (n + 1) w P M)) = some (o + (n + 1)) from rfl, sh_R (by omega) r h6.1]
/-- an array of the Shore -/
theorem sh_arr {o n t l k N0 : Nat} {w : Nat → Option Nat} {M : gMem} {K : gMem → Option (Unit × gMem)} (hN : N0 = o + 1) (hn : 0 < n ∧ n < 80 ∧ n ≠ 6) (ht : layT n = t) (hl : layL n = l) (hr : layR 0 k = some n) (hi : IN n = fun _ => 0) : (ck (mN (shS o n w (fun x => x < n) M) + 1 ≤ N0 + 90) <| lw (nW (shS o n w (fun x => x < n) M) t l) fun M1 => ck (mT M1 o = 7) <| lw (wR M1 o k (some (mN (shS o n w (fun x => x < n) M)))) K) = K (shS o (n + 1) w (fun x => x < n + 1) M) := by
  have r := sh_R (o := o) (n := n + 1) (d := 0) (k := k) (e := n) (w := w) (P := fun x => x < n) (M := M) (by omega) hr (by omega)
  rw [ck_t (c := mN (shS o n w (fun x => x < n) M) + 1 ≤ N0 + 90) (show o + n + 1 ≤ N0 + 90 by omega), lw_S, sh_nw ht hl hi (fun x hx => by omega) (fun z => absurd z hn.2.2), ck_t (c := mT (shS o (n + 1) w (fun x => x < n) M) o = 7) (sh_t (d := 0) (by omega)), lw_S]
  show K (wR (shS o (n + 1) w (fun x => x < n) M) (o + 0) k (some (o + n))) = _
  rw [r, sh_c (fun x => show (x < n ∨ x = n) ↔ x < n + 1 by omega)]
theorem sh_x9 {Z : Nat → Nat} {o : Nat} {M : gMem} : ∃ w, f_X9_init Z (shS o 6 (fun _ => none) (fun x => x < 5) M) (o + 5) = some ((), shS o 9 w (fun x => x < 5 ∨ (6 ≤ x ∧ x < 9)) M) := by
  refine ⟨fun k => if k < 400 then some (Z 41) else none, ?_⟩
  have r1 := sh_R (o := o) (n := 7) (d := 5) (k := 1) (e := 6) (w := fun _ => none) (P := fun x => x < 5) (M := M) (by omega) rfl (by omega)
  have r2 := sh_R (o := o) (n := 8) (d := 5) (k := 2) (e := 7) (w := fun _ => none) (P := fun x => x < 5 ∨ x = 6) (M := M) (by omega) rfl (by omega)
  have r3 := sh_R (o := o) (n := 9) (d := 5) (k := 3) (e := 8) (w := fun _ => none) (P := fun x => (x < 5 ∨ x = 6) ∨ x = 7) (M := M) (by omega) rfl (by omega)
  have c9 : shS o 9 (fun _ => none) (fun x => ((x < 5 ∨ x = 6) ∨ x = 7) ∨ x = 8) M = shS o 9 (fun _ => none) (fun x => x < 5 ∨ (6 ≤ x ∧ x < 9)) M := sh_c (fun x => by omega)
  unfold f_X9_init b_X9_init_0
  rw [lw_S, show ((400 : Int32)).toNatClampNeg = 400 from rfl, sh_nw (n := 6) (t := 27) (l := 400) rfl rfl (by funext k; rfl) (fun x hx => by omega) (fun _ => rfl), ck_t (c := mT (shS o (6 + 1) (fun _ => none) (fun x => x < 5) M) (o + 5) = 8) (sh_t (by omega)), lw_S]
  rw [show wR (shS o (6 + 1) (fun _ => none) (fun x => x < 5) M) (o + 5) 1 (some (mN (shS o 6 (fun _ => none) (fun x => x < 5) M))) = _ from r1, lw_S]
  rw [sh_nw (n := 7) (t := 20) (l := 400) rfl rfl (by funext k; rfl) (fun x hx => by omega) (fun z => absurd z (by omega)), ck_t (c := mT (shS o (7 + 1) (fun _ => none) (fun x => x < 5 ∨ x = 6) M) (o + 5) = 8) (sh_t (by omega)), lw_S]
  rw [show wR (shS o (7 + 1) (fun _ => none) (fun x => x < 5 ∨ x = 6) M) (o + 5) 2 (some (mN (shS o 7 (fun _ => none) (fun x => x < 5 ∨ x = 6) M))) = _ from r2, lw_S]
  rw [sh_nw (n := 8) (t := 20) (l := 400) rfl rfl (by funext k; rfl) (fun x hx => by omega) (fun z => absurd z (by omega)), ck_t (c := mT (shS o (8 + 1) (fun _ => none) (fun x => (x < 5 ∨ x = 6) ∨ x = 7) M) (o + 5) = 8) (sh_t (by omega)), lw_S]
  rw [show wR (shS o (8 + 1) (fun _ => none) (fun x => (x < 5 ∨ x = 6) ∨ x = 7) M) (o + 5) 3 (some (mN (shS o 8 (fun _ => none) (fun x => (x < 5 ∨ x = 6) ∨ x = 7) M))) = _ from r3, c9]
  have w0 : (fun k : Nat => if k < 0 then some (Z 41) else none) = fun _ => none := by
    funext k; exact if_neg (by omega)
  have key := lp_seq (f := fun (q : gMem × Int32) => bb_X9_init_34 Z q.1 (o + 5) q.2) (b := ((), shS o 9 (fun k => if k < 400 then some (Z 41) else none) (fun x => x < 5 ∨ (6 ≤ x ∧ x < 9)) M)) (fun j => (shS o 9 (fun k => if k < j then some (Z 41) else none) (fun x => x < 5 ∨ (6 ≤ x ∧ x < 9)) M, nI j)) 0 400 (by omega) (fun j _ hj => ?_) ?_
  · rw [w0] at key
    exact key
  · show bb_X9_init_34 Z (shS o 9 (fun k => if k < j then some (Z 41) else none) (fun x => x < 5 ∨ (6 ≤ x ∧ x < 9)) M) (o + 5) (nI j) = _
    have q1 : ¬ nI 400 ≤ nI j := fun z => by have := (nI_leI (by omega) (by omega)).mp z; omega
    have e6 : wR (shS o 9 (fun k => if k < j then some (Z 41) else none) (fun x => x < 5 ∨ (6 ≤ x ∧ x < 9)) M) (o + 6) j (some (Z 41)) = shS o 9 (fun k => if k < j + 1 then some (Z 41) else none) (fun x => x < 5 ∨ (6 ≤ x ∧ x < 9)) M := by
      unfold shS
      rw [mkB_R (by omega)]
      congr 1
      funext d k
      by_cases c : d = 6 ∧ k = j
      · rw [c.1, c.2, up2_eq]
        unfold rSh
        rw [if_pos rfl]
        exact (if_pos (Nat.lt_succ_self j)).symm
      · rw [up2_ne (by omega)]
        unfold rSh
        by_cases c6 : d = 6
        · rw [if_pos c6, if_pos c6]
          show (if k < j then some (Z 41) else none) = (if k < j + 1 then some (Z 41) else none)
          by_cases ck : k < j
          · rw [if_pos ck, if_pos (by omega)]
          · rw [if_neg ck, if_neg (by omega)]
        · rw [if_neg c6, if_neg c6]
    have l6 : mL (shS o 9 (fun k => if k < j then some (Z 41) else none) (fun x => x < 5 ∨ (6 ≤ x ∧ x < 9)) M) (o + 6) = 400 := sh_l (by omega)
    unfold bb_X9_init_34
    rw [ck_t (c := mT (shS o 9 (fun k => if k < j then some (Z 41) else none) (fun x => x < 5 ∨ (6 ≤ x ∧ x < 9)) M) (o + 5) = 8) (sh_t (by omega)), dr_s (sh_r (d := 5) (k := 1) (e := 6) (by omega) rfl (by omega) (by omega)), ck_t (c := mT (shS o 9 (fun k => if k < j then some (Z 41) else none) (fun x => x < 5 ∨ (6 ≤ x ∧ x < 9)) M) (o + 6) = 27) (sh_t (by omega)), l6, show Int32.ofNat 400 = nI 400 from rfl, if_neg q1, ck_t (show inb (nI j) 400 from (inbN (by omega)).mpr hj), nI_clamp (by omega), lw_S, e6, nI_1]
  · show bb_X9_init_34 Z (shS o 9 (fun k => if k < 400 then some (Z 41) else none) (fun x => x < 5 ∨ (6 ≤ x ∧ x < 9)) M) (o + 5) (nI 400) = _
    have l6 : mL (shS o 9 (fun k => if k < 400 then some (Z 41) else none) (fun x => x < 5 ∨ (6 ≤ x ∧ x < 9)) M) (o + 6) = 400 := sh_l (by omega)
    unfold bb_X9_init_34
    rw [ck_t (c := mT (shS o 9 (fun k => if k < 400 then some (Z 41) else none) (fun x => x < 5 ∨ (6 ≤ x ∧ x < 9)) M) (o + 5) = 8) (sh_t (by omega)), dr_s (sh_r (d := 5) (k := 1) (e := 6) (by omega) rfl (by omega) (by omega)), ck_t (c := mT (shS o 9 (fun k => if k < 400 then some (Z 41) else none) (fun x => x < 5 ∨ (6 ≤ x ∧ x < 9)) M) (o + 6) = 27) (sh_t (by omega)), l6, show Int32.ofNat 400 = nI 400 from rfl, if_pos (nI_le (Nat.le_refl _) (by omega))]
    rfl

