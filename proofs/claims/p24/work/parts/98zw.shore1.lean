/-! ## Pure: a Shore is made, step by step -/
theorem sh_nw {o n t l : Nat} {w : Nat → Option Nat} {P : Nat → Prop} {M : gMem} (ht : layT n = t) (hl : layL n = l) (hi : IN n = fun _ => 0) (hP : ∀ x, P x → x ≤ n) (h6 : n = 6 → w = fun _ => none) : nW (shS o n w P M) t l = shS o (n + 1) w P M := sorry

theorem sh_R {o n d k e : Nat} {w : Nat → Option Nat} {P : Nat → Prop} {M : gMem} (hd : d < n) (h : layR d k = some e) (h6 : d ≠ 6) : wR (shS o n w P M) (o + d) k (some (o + e)) = shS o n w (fun x => P x ∨ x = e) M := sorry

theorem sh_c {o n : Nat} {w : Nat → Option Nat} {P Q : Nat → Prop} {M : gMem} (h : ∀ x, P x ↔ Q x) : shS o n w P M = shS o n w Q M := sorry

noncomputable def shZ (o n : Nat) (w : Nat → Option Nat) (P : Nat → Prop) (M : gMem) : gMem := mkB o (n + 1) layT layL (up1 IN n (fun _ => 0)) (rSh o w P) M
theorem sh_nZ {o n t : Nat} {w : Nat → Option Nat} {P : Nat → Prop} {M : gMem} (ht : layT n = t) (hl : layL n = 0) (hP : ∀ x, P x → x ≤ n) (h6 : n ≠ 6) : nW (shS o n w P M) t 0 = shZ o n w P M := sorry

theorem sh_ZI {o n k : Nat} {v : Int32} {w : Nat → Option Nat} {P : Nat → Prop} {M : gMem} (hi : IN n = fun j => if j = k then v else 0) : wI (shZ o n w P M) (o + n) k v = shS o (n + 1) w P M := sorry

theorem sh_t {o n d : Nat} {w : Nat → Option Nat} {P : Nat → Prop} {M : gMem} (h : d < n) : mT (shS o n w P M) (o + d) = layT d := sorry

theorem sh_l {o n d : Nat} {w : Nat → Option Nat} {P : Nat → Prop} {M : gMem} (h : d < n) : mL (shS o n w P M) (o + d) = layL d := sorry

theorem sh_r {o n d k e : Nat} {w : Nat → Option Nat} {P : Nat → Prop} {M : gMem} (hd : d < n) (h : layR d k = some e) (h6 : d ≠ 6) (p : P e) : mR (shS o n w P M) (o + d) k = some (o + e) := sorry

theorem sh_x3 {o n : Nat} {w : Nat → Option Nat} {P : Nat → Prop} {M : gMem} (t : layT n = 3) (r : layR n 3 = some (n + 1)) (t1 : layT (n + 1) = 20) (l1 : layL (n + 1) = 6) (i1 : IN (n + 1) = fun _ => 0) (hP : ∀ x, P x → x ≤ n + 1) (h6 : n ≠ 6 ∧ n ≠ 5) : f_X3_init (shS o (n + 1) w P M) (o + n) = some ((), shS o (n + 2) w (fun x => P x ∨ x = n + 1) M) := sorry

theorem sh_x1 {o n : Nat} {w : Nat → Option Nat} {P : Nat → Prop} {M : gMem} (t : layT n = 1) (r : layR n 10 = some (n + 1)) (t1 : layT (n + 1) = 20) (l1 : layL (n + 1) = 8) (i0 : IN n = fun j => if j = 6 then -1 else 0) (i1 : IN (n + 1) = fun _ => 0) (hP : ∀ x, P x → x ≤ n + 1) (h6 : n ≠ 6 ∧ n ≠ 5) : f_X1_init (shZ o n w P M) (o + n) = some ((), shS o (n + 2) w (fun x => P x ∨ x = n + 1) M) := sorry

theorem sh_x5 {o n : Nat} {w : Nat → Option Nat} {P : Nat → Prop} {M : gMem} (t : layT n = 5) (r : layR n 4 = some (n + 1)) (t1 : layT (n + 1) = 20) (l1 : layL (n + 1) = 8) (i0 : IN n = fun j => if j = 0 then -1 else 0) (i1 : IN (n + 1) = fun _ => 0) (hP : ∀ x, P x → x ≤ n + 1) (h6 : n ≠ 6 ∧ n ≠ 5) : f_X5_init (shZ o n w P M) (o + n) = some ((), shS o (n + 2) w (fun x => P x ∨ x = n + 1) M) := sorry

/-- an array of the Shore -/
theorem sh_arr {o n t l k N0 : Nat} {w : Nat → Option Nat} {M : gMem} {K : gMem → Option (Unit × gMem)} (hN : N0 = o + 1) (hn : 0 < n ∧ n < 80 ∧ n ≠ 6) (ht : layT n = t) (hl : layL n = l) (hr : layR 0 k = some n) (hi : IN n = fun _ => 0) : (ck (mN (shS o n w (fun x => x < n) M) + 1 ≤ N0 + 90) <| lw (nW (shS o n w (fun x => x < n) M) t l) fun M1 => ck (mT M1 o = 7) <| lw (wR M1 o k (some (mN (shS o n w (fun x => x < n) M)))) K) = K (shS o (n + 1) w (fun x => x < n + 1) M) := sorry

theorem sh_x9 {Z : Nat → Nat} {o : Nat} {M : gMem} : ∃ w, f_X9_init Z (shS o 6 (fun _ => none) (fun x => x < 5) M) (o + 5) = some ((), shS o 9 w (fun x => x < 5 ∨ (6 ≤ x ∧ x < 9)) M) := sorry
