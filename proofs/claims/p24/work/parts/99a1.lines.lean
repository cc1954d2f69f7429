/-! ## Pure: the lines of the law's text, wherever they stand: the reader's events -/
def shR (k0 : Nat) : Option (Option (List (Nat × Nat)) × Nat) → Option (Option (List (Nat × Nat)) × Nat)
  | none => none
  | some (none, k) => some (none, k + k0)
  | some (some es, k) => some (some (es.map fun e => (e.1, e.2 + k0)), k + k0)
theorem sq_sh {k0 : Nat} {x : Option (Option (List (Nat × Nat)) × Nat)} {f f' : Nat → Option (Option (List (Nat × Nat)) × Nat)} (h : ∀ k, f' (k + k0) = shR k0 (f k)) : sq (shR k0 x) f' = shR k0 (sq x f) := by
  match x with
  | none => rfl
  | some (none, k) => rfl
  | some (some es, k) =>
    show (match f' (k + k0) with | none => none | some (none, k1) => some (none, k1) | some (some es1, k1) => some (some (es.map (fun e => (e.1, e.2 + k0)) ++ es1), k1)) = shR k0 (match f k with | none => none | some (none, k1) => some (none, k1) | some (some es1, k1) => some (some (es ++ es1), k1))
    rw [h k]
    match f k with
    | none => rfl
    | some (none, k1) => rfl
    | some (some es1, k1) => simp [shR, List.map_append]
theorem ite_sh {k0 : Nat} {c : Prop} [Decidable c] {a b a' b' : Option (Option (List (Nat × Nat)) × Nat)} (h1 : c → a = shR k0 a') (h2 : ¬ c → b = shR k0 b') : (if c then a else b) = shR k0 (if c then a' else b') := by
  by_cases h : c
  · rw [if_pos h, if_pos h]; exact h1 h
  · rw [if_neg h, if_neg h]; exact h2 h
section SHF
variable {g : Nat → Nat} {k0 : Nat}
theorem ft_sh (k : Nat) : ft (k + k0) = shR k0 (ft k) := rfl
theorem em_sh (c j k : Nat) : em (c, j + k0) (k + k0) = shR k0 (em (c, j) k) := rfl
theorem tk1_sh (a k : Nat) : tk1 g a (k + k0) = shR k0 (tk1 (fun i => g (i + k0)) a k) := by
  unfold tk1
  exact ite_sh (fun _ => by rw [Nat.add_right_comm]; rfl) (fun _ => rfl)
theorem nm_sh (c k : Nat) : nm g c (k + k0) = shR k0 (nm (fun i => g (i + k0)) c k) := by
  unfold nm
  exact ite_sh (fun _ => by rw [Nat.add_right_comm]; rfl) (fun _ => rfl)
theorem nb_sh (c k : Nat) : nb g c (k + k0) = shR k0 (nb (fun i => g (i + k0)) c k) := by
  unfold nb
  exact ite_sh (fun _ => by rw [Nat.add_right_comm]; rfl) (fun _ => rfl)
theorem lpS_sh {a b : Nat} {f f' : Nat → Option (Option (List (Nat × Nat)) × Nat)} (h : ∀ k, f' (k + k0) = shR k0 (f k)) : ∀ m k, lpS g a b f' m (k + k0) = shR k0 (lpS (fun i => g (i + k0)) a b f m k)
  | 0, _ => rfl
  | m + 1, k => by
    rw [lpS, lpS]
    refine ite_sh (fun _ => ?_) (fun _ => rfl)
    rw [Nat.add_right_comm, h (k + 1)]
    exact sq_sh fun k1 => by
      rw [em_sh (g (k + k0)) k k1]
      exact sq_sh fun k2 => lpS_sh h m k2
theorem Px_sh : ∀ n j k d, Px g n j (k + k0) d = shR k0 (Px (fun i => g (i + k0)) n j k d)
  | 0, _, _, _ => rfl
  | n + 1, j, k, d => by
    have ih := Px_sh n
    have e1 : k + k0 + 1 = (k + 1) + k0 := Nat.add_right_comm _ _ _
    rw [Px, Px]
    refine ite_sh (fun _ => ?_) (fun _ => ite_sh (fun _ => ?_) (fun _ => ite_sh (fun _ => ?_) (fun _ => ite_sh (fun _ => ?_) (fun _ => ite_sh (fun _ => ?_) (fun _ => ite_sh (fun _ => ?_) (fun _ => ?_))))))
    · rw [ih 1 k d]
      exact sq_sh fun k => lpS_sh (fun k => ih 1 k d) 401 k
    · rw [ih 2 k d]
      exact sq_sh fun k => lpS_sh (fun k => ih 2 k d) 401 k
    · refine ite_sh (fun _ => ite_sh (fun _ => rfl) (fun _ => ?_)) (fun _ => ite_sh (fun _ => ite_sh (fun _ => rfl) (fun _ => ?_)) (fun _ => ite_sh (fun _ => ?_) (fun _ => ?_)))
      · rw [e1, ih 2 (k + 1) (d + 1)]
        exact sq_sh fun z => em_sh 20 k z
      · rw [e1, ih 0 (k + 1) (d + 1)]
        exact sq_sh fun z => tk1_sh 28 z
      · rw [e1]; exact nm_sh 19 (k + 1)
      · rw [ih 4 k d]
        exact sq_sh fun k => ih 3 k d
    · refine ite_sh (fun _ => ?_) (fun _ => rfl)
      rw [e1, ih 4 (k + 1) d]
      exact sq_sh fun z => em_sh (g (k + k0)) k z
    · rw [ih 5 k d]
      exact sq_sh fun k => lpS_sh (fun k => ih 5 k d) 401 k
    · rw [ih 6 k d]
      exact sq_sh fun k => lpS_sh (fun k => ih 6 k d) 401 k
    · refine ite_sh (fun _ => ?_) (fun _ => ite_sh (fun _ => ?_) (fun _ => ite_sh (fun _ => ?_) (fun _ => ite_sh (fun _ => ?_) (fun _ => ite_sh (fun _ => ite_sh (fun _ => rfl) (fun _ => ?_)) (fun _ => ite_sh (fun _ => ite_sh (fun _ => rfl) (fun _ => ?_)) (fun _ => ite_sh (fun _ => ite_sh (fun _ => ?_) (fun _ => ?_)) (fun _ => rfl)))))))
      · rw [e1]; rfl
      · rw [e1]; rfl
      · rw [e1]; exact nm_sh _ (k + 1)
      · rw [e1]; exact nm_sh _ (k + 1)
      · rw [e1, ih 6 (k + 1) (d + 1)]
        exact sq_sh fun z => em_sh 44 k z
      · rw [e1, ih 4 (k + 1) (d + 1)]
        exact sq_sh fun z => tk1_sh 26 z
      · rw [e1]; rfl
      · rw [e1, tk1_sh 25 (k + 1)]
        refine sq_sh fun k1 => ?_
        rw [ih 4 k1 (d + 1)]
        refine sq_sh fun k2 => ?_
        rw [tk1_sh 30 k2]
        refine sq_sh fun k3 => ?_
        rw [ih 4 k3 (d + 1)]
        refine sq_sh fun k4 => ?_
        rw [tk1_sh 26 k4]
        exact sq_sh fun z => em_sh (g (k + k0)) k z
theorem szL_sh : ∀ m s k, szL g m s (k + k0) = shR k0 (szL (fun i => g (i + k0)) m s k)
  | 0, _, _ => rfl
  | m + 1, s, k => by
    rw [szL, szL]
    refine ite_sh (fun _ => ?_) (fun _ => rfl)
    rw [Nat.add_right_comm, nb_sh (1000 + s) (k + 1)]
    exact sq_sh fun z => szL_sh m (s + 1) z
theorem mbL_sh : ∀ m k, mbL g m (k + k0) = shR k0 (mbL (fun i => g (i + k0)) m k)
  | 0, _ => rfl
  | m + 1, k => by
    rw [mbL, mbL]
    refine ite_sh (fun _ => ?_) (fun _ => rfl)
    rw [Nat.add_right_comm, nm_sh 62 (k + 1)]
    exact sq_sh fun z => mbL_sh m z
theorem ln1_sh (k : Nat) : ln1 g (k + k0) = shR k0 (ln1 (fun i => g (i + k0)) k) := by
  unfold ln1
  refine ite_sh (fun _ => ?_) (fun _ => ite_sh (fun _ => ?_) (fun _ => ite_sh (fun _ => ?_) (fun _ => ite_sh (fun _ => ?_) (fun _ => rfl))))
  · unfold lnG
    rw [tk1_sh]
    refine sq_sh fun k => ?_
    rw [nm_sh]
    refine sq_sh fun k => ?_
    rw [tk1_sh]
    refine sq_sh fun k => ?_
    rw [nb_sh]
    refine sq_sh fun k => ?_
    rw [tk1_sh]
    refine sq_sh fun k => ?_
    rw [nb_sh]
    exact sq_sh fun k => szL_sh 401 2 k
  · unfold lnF
    rw [tk1_sh]
    refine sq_sh fun k => ?_
    rw [nm_sh]
    refine sq_sh fun k => ?_
    rw [tk1_sh]
    refine sq_sh fun k => ?_
    rw [nb_sh]
    refine sq_sh fun k => ?_
    rw [tk1_sh]
    refine sq_sh fun k => ?_
    rw [nb_sh]
    refine sq_sh fun k => ?_
    rw [tk1_sh]
    exact sq_sh fun k => nb_sh 59 k
  · unfold lnO
    have e : (if g (k + k0) = 7 then em (54, k + k0) (k + k0 + 1) else ft (k + k0)) = shR k0 (if g (k + k0) = 7 then em (54, k) (k + 1) else ft k) := ite_sh (fun _ => by rw [Nat.add_right_comm]; rfl) (fun _ => rfl)
    rw [e]
    refine sq_sh fun k => ?_
    rw [nm_sh]
    refine sq_sh fun k => ?_
    rw [tk1_sh]
    refine sq_sh fun k => ?_
    rw [nm_sh]
    refine sq_sh fun k => ?_
    refine ite_sh (fun _ => ?_) (fun _ => rfl)
    rw [Nat.add_right_comm, Px_sh 64 0 (k + 1) 0]
    exact sq_sh fun z => em_sh 64 k z
  · unfold lnP
    rw [tk1_sh]
    refine sq_sh fun k => ?_
    rw [nm_sh]
    refine sq_sh fun k => ?_
    rw [tk1_sh]
    refine sq_sh fun k => ?_
    rw [nm_sh]
    refine sq_sh fun k => ?_
    rw [mbL_sh]
    refine sq_sh fun k => ?_
    refine ite_sh (fun _ => by rw [Nat.add_right_comm]; rfl) (fun _ => ?_)
    rw [tk1_sh]
    refine sq_sh fun k => ?_
    rw [nm_sh]
    refine sq_sh fun k => ?_
    rw [tk1_sh]
    refine sq_sh fun k => ?_
    rw [Px_sh 64 4 k 0]
    exact sq_sh fun z => em_sh 65 k z
end SHF
/-- a row of signs, and what stands behind it -/
def tmG (L : List Nat) (r : Nat → Nat) : Nat → Nat := fun i => if i < L.length then L.getD i 0 else r i
theorem ln1_tm {g : Nat → Nat} {L : List Nat} {es : List (Nat × Nat)} {e k0 : Nat} (hr : ∀ r : Nat → Nat, ln1 (tmG L r) 0 = some (some es, e)) (h : ∀ i, i < L.length → g (k0 + i) = L.getD i 0) : ln1 g k0 = some (some (es.map fun x => (x.1, x.2 + k0)), e + k0) := by
  have e1 : (fun i => g (i + k0)) = tmG L (fun i => g (i + k0)) := by
    funext i
    unfold tmG
    by_cases hi : i < L.length
    · rw [if_pos hi, ← h i hi, Nat.add_comm]
    · rw [if_neg hi]
  have := ln1_sh (g := g) (k0 := k0) 0
  rw [Nat.zero_add, e1, hr] at this
  exact this
theorem tm_G1 : ∀ r : Nat → Nat, ln1 (tmG [0, 40, 1, 41, 2, 41, 29] r) 0 = some (some [(51, 1), (55, 3), (1001, 5)], 6) := fun r => by rfl
theorem tm_G2 : ∀ r : Nat → Nat, ln1 (tmG [0, 40, 1, 41, 2, 41, 30, 41, 29] r) 0 = some (some [(51, 1), (55, 3), (1001, 5), (1002, 7)], 8) := fun r => by rfl
theorem tm_G3 : ∀ r : Nat → Nat, ln1 (tmG [0, 40, 1, 41, 2, 41, 30, 41, 30, 41, 29] r) 0 = some (some [(51, 1), (55, 3), (1001, 5), (1002, 7), (1003, 9)], 10) := fun r => by rfl
theorem tm_G4 : ∀ r : Nat → Nat, ln1 (tmG [0, 40, 1, 41, 2, 41, 30, 41, 30, 41, 30, 41, 29] r) 0 = some (some [(51, 1), (55, 3), (1001, 5), (1002, 7), (1003, 9), (1004, 11)], 12) := fun r => by rfl
theorem tm_G5 : ∀ r : Nat → Nat, ln1 (tmG [0, 40, 1, 41, 2, 41, 30, 41, 30, 41, 30, 41, 30, 41, 29] r) 0 = some (some [(51, 1), (55, 3), (1001, 5), (1002, 7), (1003, 9), (1004, 11), (1005, 13)], 14) := fun r => by rfl
theorem tm_F : ∀ r : Nat → Nat, ln1 (tmG [3, 40, 4, 41, 5, 41, 6, 41, 29] r) 0 = some (some [(52, 1), (57, 3), (58, 5), (59, 7)], 8) := fun r => by rfl
theorem tm_O0 : ∀ r : Nat → Nat, ln1 (tmG [7, 40, 8, 40, 29] r) 0 = some (some [(54, 0), (60, 1), (61, 3), (66, 4)], 4) := fun r => by rfl
theorem tm_O1 : ∀ r : Nat → Nat, ln1 (tmG [7, 40, 8, 40, 9, 2, 40, 39, 41, 29] r) 0 = some (some [(54, 0), (60, 1), (61, 3), (2, 6), (41, 8), (39, 7), (64, 4)], 9) := fun r => by rfl
theorem tm_O2 : ∀ r : Nat → Nat, ln1 (tmG [7, 40, 8, 40, 9, 18, 40, 35, 41, 21, 15, 36, 41, 29] r) 0 = some (some [(54, 0), (60, 1), (61, 3), (18, 6), (41, 8), (35, 7), (15, 10), (41, 12), (36, 11), (21, 9), (64, 4)], 13) := fun r => by rfl
theorem tm_O3 : ∀ r : Nat → Nat, ln1 (tmG [7, 40, 8, 40, 9, 20, 19, 40, 29] r) 0 = some (some [(54, 0), (60, 1), (61, 3), (19, 7), (20, 5), (64, 4)], 8) := fun r => by rfl
theorem tm_O4 : ∀ r : Nat → Nat, ln1 (tmG [7, 40, 8, 40, 9, 27, 16, 40, 35, 41, 22, 17, 40, 37, 41, 28, 29] r) 0 = some (some [(54, 0), (60, 1), (61, 3), (16, 7), (41, 9), (35, 8), (17, 12), (41, 14), (37, 13), (22, 10), (64, 4)], 16) := fun r => by rfl
theorem tm_O5 : ∀ r : Nat → Nat, ln1 (tmG [7, 40, 8, 40, 9, 4, 40, 36, 41, 22, 15, 34, 41, 33, 41, 37, 15, 29] r) 0 = some (some [(54, 0), (60, 1), (61, 3), (4, 6), (41, 8), (36, 7), (15, 10), (41, 12), (34, 11), (41, 14), (33, 13), (15, 16), (37, 15), (22, 9), (64, 4)], 17) := fun r => by rfl
theorem tm_O6 : ∀ r : Nat → Nat, ln1 (tmG [7, 40, 8, 40, 9, 23, 25, 16, 40, 30, 16, 40, 26, 38, 41, 32, 15, 29] r) 0 = some (some [(54, 0), (60, 1), (61, 3), (16, 8), (16, 11), (23, 5), (41, 14), (15, 16), (32, 15), (38, 13), (64, 4)], 17) := fun r => by rfl
theorem tm_O7 : ∀ r : Nat → Nat, ln1 (tmG [7, 40, 8, 40, 9, 19, 40, 21, 2, 40, 32, 18, 40, 36, 41, 22, 17, 40, 36, 41, 29] r) 0 = some (some [(54, 0), (60, 1), (61, 3), (19, 6), (2, 9), (18, 12), (32, 10), (41, 14), (36, 13), (21, 7), (17, 17), (41, 19), (36, 18), (22, 15), (64, 4)], 20) := fun r => by rfl
theorem tm_P1_5 : ∀ r : Nat → Nat, ln1 (tmG [10, 40, 11, 40, 12, 29] r) 0 = some (some [(53, 1), (62, 3)], 5) := fun r => by rfl
theorem tm_P1_0 : ∀ r : Nat → Nat, ln1 (tmG [10, 40, 11, 40, 13, 40, 14, 41, 29] r) 0 = some (some [(53, 1), (62, 3), (63, 5), (41, 7), (65, 7)], 8) := fun r => by rfl
theorem tm_P1_1 : ∀ r : Nat → Nat, ln1 (tmG [10, 40, 11, 40, 13, 40, 14, 2, 40, 34, 41, 31, 41, 29] r) 0 = some (some [(53, 1), (62, 3), (63, 5), (2, 8), (41, 10), (34, 9), (41, 12), (31, 11), (65, 7)], 13) := fun r => by rfl
theorem tm_P1_2 : ∀ r : Nat → Nat, ln1 (tmG [10, 40, 11, 40, 13, 40, 14, 24, 25, 41, 30, 15, 33, 41, 26, 29] r) 0 = some (some [(53, 1), (62, 3), (63, 5), (41, 9), (15, 11), (41, 13), (33, 12), (24, 7), (65, 7)], 15) := fun r => by rfl
theorem tm_P1_3 : ∀ r : Nat → Nat, ln1 (tmG [10, 40, 11, 40, 13, 40, 14, 41, 32, 16, 40, 29] r) 0 = some (some [(53, 1), (62, 3), (63, 5), (41, 7), (16, 10), (32, 8), (65, 7)], 11) := fun r => by rfl
theorem tm_P1_4 : ∀ r : Nat → Nat, ln1 (tmG [10, 40, 11, 40, 13, 40, 14, 25, 41, 33, 41, 33, 41, 26, 34, 25, 15, 32, 41, 26, 29] r) 0 = some (some [(53, 1), (62, 3), (63, 5), (41, 8), (41, 10), (33, 9), (41, 12), (33, 11), (15, 16), (41, 18), (32, 17), (34, 14), (65, 7)], 20) := fun r => by rfl
theorem tm_P2_5 : ∀ r : Nat → Nat, ln1 (tmG [10, 40, 11, 40, 30, 40, 12, 29] r) 0 = some (some [(53, 1), (62, 3), (62, 5)], 7) := fun r => by rfl
theorem tm_P2_0 : ∀ r : Nat → Nat, ln1 (tmG [10, 40, 11, 40, 30, 40, 13, 40, 14, 41, 29] r) 0 = some (some [(53, 1), (62, 3), (62, 5), (63, 7), (41, 9), (65, 9)], 10) := fun r => by rfl
theorem tm_P2_1 : ∀ r : Nat → Nat, ln1 (tmG [10, 40, 11, 40, 30, 40, 13, 40, 14, 2, 40, 34, 41, 31, 41, 29] r) 0 = some (some [(53, 1), (62, 3), (62, 5), (63, 7), (2, 10), (41, 12), (34, 11), (41, 14), (31, 13), (65, 9)], 15) := fun r => by rfl
theorem tm_P2_2 : ∀ r : Nat → Nat, ln1 (tmG [10, 40, 11, 40, 30, 40, 13, 40, 14, 24, 25, 41, 30, 15, 33, 41, 26, 29] r) 0 = some (some [(53, 1), (62, 3), (62, 5), (63, 7), (41, 11), (15, 13), (41, 15), (33, 14), (24, 9), (65, 9)], 17) := fun r => by rfl
theorem tm_P2_3 : ∀ r : Nat → Nat, ln1 (tmG [10, 40, 11, 40, 30, 40, 13, 40, 14, 41, 32, 16, 40, 29] r) 0 = some (some [(53, 1), (62, 3), (62, 5), (63, 7), (41, 9), (16, 12), (32, 10), (65, 9)], 13) := fun r => by rfl
theorem tm_P2_4 : ∀ r : Nat → Nat, ln1 (tmG [10, 40, 11, 40, 30, 40, 13, 40, 14, 25, 41, 33, 41, 33, 41, 26, 34, 25, 15, 32, 41, 26, 29] r) 0 = some (some [(53, 1), (62, 3), (62, 5), (63, 7), (41, 10), (41, 12), (33, 11), (41, 14), (33, 13), (15, 18), (41, 20), (32, 19), (34, 16), (65, 9)], 22) := fun r => by rfl
theorem tm_P3_5 : ∀ r : Nat → Nat, ln1 (tmG [10, 40, 11, 40, 30, 40, 30, 40, 12, 29] r) 0 = some (some [(53, 1), (62, 3), (62, 5), (62, 7)], 9) := fun r => by rfl
theorem tm_P3_0 : ∀ r : Nat → Nat, ln1 (tmG [10, 40, 11, 40, 30, 40, 30, 40, 13, 40, 14, 41, 29] r) 0 = some (some [(53, 1), (62, 3), (62, 5), (62, 7), (63, 9), (41, 11), (65, 11)], 12) := fun r => by rfl
theorem tm_P3_1 : ∀ r : Nat → Nat, ln1 (tmG [10, 40, 11, 40, 30, 40, 30, 40, 13, 40, 14, 2, 40, 34, 41, 31, 41, 29] r) 0 = some (some [(53, 1), (62, 3), (62, 5), (62, 7), (63, 9), (2, 12), (41, 14), (34, 13), (41, 16), (31, 15), (65, 11)], 17) := fun r => by rfl
theorem tm_P3_2 : ∀ r : Nat → Nat, ln1 (tmG [10, 40, 11, 40, 30, 40, 30, 40, 13, 40, 14, 24, 25, 41, 30, 15, 33, 41, 26, 29] r) 0 = some (some [(53, 1), (62, 3), (62, 5), (62, 7), (63, 9), (41, 13), (15, 15), (41, 17), (33, 16), (24, 11), (65, 11)], 19) := fun r => by rfl
theorem tm_P3_3 : ∀ r : Nat → Nat, ln1 (tmG [10, 40, 11, 40, 30, 40, 30, 40, 13, 40, 14, 41, 32, 16, 40, 29] r) 0 = some (some [(53, 1), (62, 3), (62, 5), (62, 7), (63, 9), (41, 11), (16, 14), (32, 12), (65, 11)], 15) := fun r => by rfl
theorem tm_P3_4 : ∀ r : Nat → Nat, ln1 (tmG [10, 40, 11, 40, 30, 40, 30, 40, 13, 40, 14, 25, 41, 33, 41, 33, 41, 26, 34, 25, 15, 32, 41, 26, 29] r) 0 = some (some [(53, 1), (62, 3), (62, 5), (62, 7), (63, 9), (41, 12), (41, 14), (33, 13), (41, 16), (33, 15), (15, 20), (41, 22), (32, 21), (34, 18), (65, 11)], 24) := fun r => by rfl
theorem tm_P4_5 : ∀ r : Nat → Nat, ln1 (tmG [10, 40, 11, 40, 30, 40, 30, 40, 30, 40, 12, 29] r) 0 = some (some [(53, 1), (62, 3), (62, 5), (62, 7), (62, 9)], 11) := fun r => by rfl
theorem tm_P4_0 : ∀ r : Nat → Nat, ln1 (tmG [10, 40, 11, 40, 30, 40, 30, 40, 30, 40, 13, 40, 14, 41, 29] r) 0 = some (some [(53, 1), (62, 3), (62, 5), (62, 7), (62, 9), (63, 11), (41, 13), (65, 13)], 14) := fun r => by rfl
theorem tm_P4_1 : ∀ r : Nat → Nat, ln1 (tmG [10, 40, 11, 40, 30, 40, 30, 40, 30, 40, 13, 40, 14, 2, 40, 34, 41, 31, 41, 29] r) 0 = some (some [(53, 1), (62, 3), (62, 5), (62, 7), (62, 9), (63, 11), (2, 14), (41, 16), (34, 15), (41, 18), (31, 17), (65, 13)], 19) := fun r => by rfl
theorem tm_P4_2 : ∀ r : Nat → Nat, ln1 (tmG [10, 40, 11, 40, 30, 40, 30, 40, 30, 40, 13, 40, 14, 24, 25, 41, 30, 15, 33, 41, 26, 29] r) 0 = some (some [(53, 1), (62, 3), (62, 5), (62, 7), (62, 9), (63, 11), (41, 15), (15, 17), (41, 19), (33, 18), (24, 13), (65, 13)], 21) := fun r => by rfl
theorem tm_P4_3 : ∀ r : Nat → Nat, ln1 (tmG [10, 40, 11, 40, 30, 40, 30, 40, 30, 40, 13, 40, 14, 41, 32, 16, 40, 29] r) 0 = some (some [(53, 1), (62, 3), (62, 5), (62, 7), (62, 9), (63, 11), (41, 13), (16, 16), (32, 14), (65, 13)], 17) := fun r => by rfl
theorem tm_P4_4 : ∀ r : Nat → Nat, ln1 (tmG [10, 40, 11, 40, 30, 40, 30, 40, 30, 40, 13, 40, 14, 25, 41, 33, 41, 33, 41, 26, 34, 25, 15, 32, 41, 26, 29] r) 0 = some (some [(53, 1), (62, 3), (62, 5), (62, 7), (62, 9), (63, 11), (41, 14), (41, 16), (33, 15), (41, 18), (33, 17), (15, 22), (41, 24), (32, 23), (34, 20), (65, 13)], 26) := fun r => by rfl
theorem tm_P5_5 : ∀ r : Nat → Nat, ln1 (tmG [10, 40, 11, 40, 30, 40, 30, 40, 30, 40, 30, 40, 12, 29] r) 0 = some (some [(53, 1), (62, 3), (62, 5), (62, 7), (62, 9), (62, 11)], 13) := fun r => by rfl
theorem tm_P5_0 : ∀ r : Nat → Nat, ln1 (tmG [10, 40, 11, 40, 30, 40, 30, 40, 30, 40, 30, 40, 13, 40, 14, 41, 29] r) 0 = some (some [(53, 1), (62, 3), (62, 5), (62, 7), (62, 9), (62, 11), (63, 13), (41, 15), (65, 15)], 16) := fun r => by rfl
theorem tm_P5_1 : ∀ r : Nat → Nat, ln1 (tmG [10, 40, 11, 40, 30, 40, 30, 40, 30, 40, 30, 40, 13, 40, 14, 2, 40, 34, 41, 31, 41, 29] r) 0 = some (some [(53, 1), (62, 3), (62, 5), (62, 7), (62, 9), (62, 11), (63, 13), (2, 16), (41, 18), (34, 17), (41, 20), (31, 19), (65, 15)], 21) := fun r => by rfl
theorem tm_P5_2 : ∀ r : Nat → Nat, ln1 (tmG [10, 40, 11, 40, 30, 40, 30, 40, 30, 40, 30, 40, 13, 40, 14, 24, 25, 41, 30, 15, 33, 41, 26, 29] r) 0 = some (some [(53, 1), (62, 3), (62, 5), (62, 7), (62, 9), (62, 11), (63, 13), (41, 17), (15, 19), (41, 21), (33, 20), (24, 15), (65, 15)], 23) := fun r => by rfl
theorem tm_P5_3 : ∀ r : Nat → Nat, ln1 (tmG [10, 40, 11, 40, 30, 40, 30, 40, 30, 40, 30, 40, 13, 40, 14, 41, 32, 16, 40, 29] r) 0 = some (some [(53, 1), (62, 3), (62, 5), (62, 7), (62, 9), (62, 11), (63, 13), (41, 15), (16, 18), (32, 16), (65, 15)], 19) := fun r => by rfl
theorem tm_P5_4 : ∀ r : Nat → Nat, ln1 (tmG [10, 40, 11, 40, 30, 40, 30, 40, 30, 40, 30, 40, 13, 40, 14, 25, 41, 33, 41, 33, 41, 26, 34, 25, 15, 32, 41, 26, 29] r) 0 = some (some [(53, 1), (62, 3), (62, 5), (62, 7), (62, 9), (62, 11), (63, 13), (41, 16), (41, 18), (33, 17), (41, 20), (33, 19), (15, 24), (41, 26), (32, 25), (34, 22), (65, 15)], 28) := fun r => by rfl
theorem tm_P6_5 : ∀ r : Nat → Nat, ln1 (tmG [10, 40, 11, 40, 30, 40, 30, 40, 30, 40, 30, 40, 30, 40, 12, 29] r) 0 = some (some [(53, 1), (62, 3), (62, 5), (62, 7), (62, 9), (62, 11), (62, 13)], 15) := fun r => by rfl
theorem tm_P6_0 : ∀ r : Nat → Nat, ln1 (tmG [10, 40, 11, 40, 30, 40, 30, 40, 30, 40, 30, 40, 30, 40, 13, 40, 14, 41, 29] r) 0 = some (some [(53, 1), (62, 3), (62, 5), (62, 7), (62, 9), (62, 11), (62, 13), (63, 15), (41, 17), (65, 17)], 18) := fun r => by rfl
theorem tm_P6_1 : ∀ r : Nat → Nat, ln1 (tmG [10, 40, 11, 40, 30, 40, 30, 40, 30, 40, 30, 40, 30, 40, 13, 40, 14, 2, 40, 34, 41, 31, 41, 29] r) 0 = some (some [(53, 1), (62, 3), (62, 5), (62, 7), (62, 9), (62, 11), (62, 13), (63, 15), (2, 18), (41, 20), (34, 19), (41, 22), (31, 21), (65, 17)], 23) := fun r => by rfl
theorem tm_P6_2 : ∀ r : Nat → Nat, ln1 (tmG [10, 40, 11, 40, 30, 40, 30, 40, 30, 40, 30, 40, 30, 40, 13, 40, 14, 24, 25, 41, 30, 15, 33, 41, 26, 29] r) 0 = some (some [(53, 1), (62, 3), (62, 5), (62, 7), (62, 9), (62, 11), (62, 13), (63, 15), (41, 19), (15, 21), (41, 23), (33, 22), (24, 17), (65, 17)], 25) := fun r => by rfl
theorem tm_P6_3 : ∀ r : Nat → Nat, ln1 (tmG [10, 40, 11, 40, 30, 40, 30, 40, 30, 40, 30, 40, 30, 40, 13, 40, 14, 41, 32, 16, 40, 29] r) 0 = some (some [(53, 1), (62, 3), (62, 5), (62, 7), (62, 9), (62, 11), (62, 13), (63, 15), (41, 17), (16, 20), (32, 18), (65, 17)], 21) := fun r => by rfl
theorem tm_P6_4 : ∀ r : Nat → Nat, ln1 (tmG [10, 40, 11, 40, 30, 40, 30, 40, 30, 40, 30, 40, 30, 40, 13, 40, 14, 25, 41, 33, 41, 33, 41, 26, 34, 25, 15, 32, 41, 26, 29] r) 0 = some (some [(53, 1), (62, 3), (62, 5), (62, 7), (62, 9), (62, 11), (62, 13), (63, 15), (41, 18), (41, 20), (33, 19), (41, 22), (33, 21), (15, 26), (41, 28), (32, 27), (34, 24), (65, 17)], 30) := fun r => by rfl
