/-! ## Pure: the reader keeps to its world -/
theorem CI_at {r o k : Nat} {M0 M : gMem} (ho : o + 86 ≤ r) (C : CI r o M0 M) : CI r o M0 (at' r k M) := CI_wI C (.inr (.inr (by omega))) (by unfold hot isX; omega)
theorem CI_r {r o j : Nat} {v : Int32} {M0 M : gMem} (ho : o + 86 ≤ r) (C : CI r o M0 M) : CI r o M0 (wI M r j v) := CI_wI C (.inr (.inr (by omega))) (by unfold hot isX; omega)
theorem CI_nt {r p o k : Nat} {e : Int32} {M0 M : gMem} (ho : o + 86 ≤ r) (C : CI r o M0 M) : CI r o M0 (ntM r p e k M) := by
  unfold ntM
  split
  · exact CI_r ho (CI_r ho C)
  · exact C
theorem CI_kw {r p o x k : Nat} {M0 M : gMem} (ho : o + 86 ≤ r) (C : CI r o M0 M) : CI r o M0 (kwM r p x k M) := by
  unfold kwM
  split
  · exact CI_r ho C
  · exact CI_r ho (CI_nt ho (CI_r ho C))
theorem CI_nb {r p o k : Nat} {lo hi : Int32} {M0 M : gMem} (ho : o + 86 ≤ r) (C : CI r o M0 M) : CI r o M0 (nbM r p lo hi k M) := by
  unfold nbM
  split
  · exact CI_nt ho (CI_r ho C)
  · exact CI_r ho C
theorem CI_nw {r p o x k : Nat} {M0 M : gMem} (ho : o + 86 ≤ r) (hx : isX r x) (C : CI r o M0 M) : CI r o M0 (nwM r p x k M) := by
  unfold nwM
  split
  · split
    · rename_i h1 h2
      have C1 : CI r o M0 (wJ M (x + 1) (cn M x 1) (mJ M (p + 4) k)) := CI_wJ C (by rcases hx with h | h | h <;> omega)
      refine CI_w C1 (.inr (.inr (by rcases hx with h | h | h <;> omega))) (SF_w C1.2.2.2.2 (fun _ _ => ⟨_, by omega, rfl⟩) ?_ ?_ ?_ ?_ ?_ ?_) <;> (intro a b; rcases hx with h | h | h <;> omega)
    · exact CI_nt ho C
  · exact CI_nt ho C
theorem CI_ad {Z : Nat → Nat} {r o c : Nat} {v : Int32} {M0 M : gMem} (ho : o + 86 ≤ r) (C : CI r o M0 M) : CI r o M0 (adM Z o c v M) := by
  unfold adM
  split
  · rename_i h
    have C1 : CI r o M0 (wI (wR M (o + 6) (cn M (o + 5) 0) (some (Z c))) (o + 7) (cn M (o + 5) 0) v) := CI_wI (CI_wR C) (.inl (by omega)) (by unfold hot isX; omega)
    refine CI_w C1 (.inl (by omega)) (SF_w C1.2.2.2.2 ?_ ?_ ?_ ?_ ?_ ?_ ?_)
    · intro a b; unfold isX at a; omega
    · intro a b; omega
    · intro a b; omega
    · intro a b; omega
    · intro a b; omega
    · intro _ _; exact ⟨_, by omega, rfl⟩
    · intro a b; omega
  · exact C
theorem CI_pa {r o i : Nat} {v : Int32} {M0 M : gMem} (ho : o + 86 ≤ r) (hi : i < 6) (C : CI r o M0 M) : CI r o M0 (paM (o + (74 + 2 * i)) v M) := by
  unfold paM
  split
  · rename_i h
    have C1 : CI r o M0 (wI M (o + (74 + 2 * i) + 1) (cn M (o + (74 + 2 * i)) 3) v) := by
      refine CI_w C (.inr (.inl (by omega))) ?_
      obtain ⟨s1, s2, s3, s4, s5, s6, s7⟩ := C.2.2.2.2
      refine ⟨fun x hx => ?_, ?_, ?_, ?_, ?_, ?_, fun q hq => ?_⟩
      · rw [wI_o (by unfold isX at hx; omega)]; exact s1 x hx
      · rw [wI_o (by omega)]; exact s2
      · rw [wI_o (by omega)]; exact s3
      · rw [wI_o (by omega)]; exact s4
      · rw [wI_o (by omega)]; exact s5
      · rw [wI_o (by omega)]; exact s6
      · rw [wI_o (by omega)]; exact s7 q hq
    refine CI_w C1 (.inr (.inl (by omega))) (SF_w C1.2.2.2.2 ?_ ?_ ?_ ?_ ?_ ?_ ?_)
    · intro a b; unfold isX at a; omega
    · intro a b; omega
    · intro a b; omega
    · intro a b; omega
    · intro a b; omega
    · intro a b; omega
    · intro _ _ _; exact ⟨_, by omega, rfl⟩
  · exact C
theorem CI_cp {r o d e : Nat} {S : Nat → Nat → Bool} {M0 M : gMem} (ho : o + 86 ≤ r) (hd : 18 ≤ d) (hd2 : d + 1 < 86) (he : e = 16 ∨ d < 74) (h3 : 74 ≤ d → d % 2 = 0 ∧ mI M (o + 16) 3 = 0) (he2 : d < 74 → d + 1 < 74) (C : CI r o M0 M) : CI r o M0 (cpS S (o + d) (o + e) M) := by
  obtain ⟨h1, hR, hI, hJ, s1, s2, s3, s4, s5, s6, s7⟩ := C
  have q : ∀ b j, (b ≠ o + d ∧ b ≠ o + d + 1) → mI (cpS S (o + d) (o + e) M) b j = mI M b j := fun b j h => if_neg (fun z => z.1.elim h.1 h.2)
  refine ⟨h1, hR, fun b b1 => ?_, hJ, fun x hx => ?_, ?_, ?_, ?_, ?_, ?_, fun i hi => ?_⟩
  · rw [← hI b b1]
    funext j
    exact q b j (by unfold rg at b1; omega)
  · rw [q _ _ (by unfold isX at hx; omega)]; exact s1 x hx
  · rw [q _ _ (by omega)]; exact s2
  · rw [q _ _ (by omega)]; exact s3
  · rw [q _ _ (by omega)]; exact s4
  · rw [q _ _ (by omega)]; exact s5
  · rw [q _ _ (by omega)]; exact s6
  · by_cases c : o + (74 + 2 * i) = o + d
    · show ∃ c, c ≤ 8 ∧ (if (o + (74 + 2 * i) = o + d ∨ o + (74 + 2 * i) = o + d + 1) ∧ S (o + (74 + 2 * i) - (o + d)) 3 = true then mI M (o + e + (o + (74 + 2 * i) - (o + d))) 3 else mI M (o + (74 + 2 * i)) 3) = nI c
      by_cases c2 : (o + (74 + 2 * i) = o + d ∨ o + (74 + 2 * i) = o + d + 1) ∧ S (o + (74 + 2 * i) - (o + d)) 3 = true
      · rw [if_pos c2]
        refine ⟨0, by omega, ?_⟩
        rw [show o + e + (o + (74 + 2 * i) - (o + d)) = o + 16 by omega]
        exact (h3 (by omega)).2
      · rw [if_neg c2]; exact s7 i hi
    · rw [q _ _ (by have := h3; have := he2; omega)]; exact s7 i hi

