/-! ## Pure: who is in a pact -/
/-- while a pact's line is made: the builder, two own rows, what stays -/
def GQ (N : Nat) (E : Nat → Nat → Prop) (M0 : gMem) (a x u n w c : Nat) (L : List Nat) (M : gMem) : Prop := BS a x c L M ∧ OW x u n M ∧ OW x w 4 M ∧ FRo N E M0 M ∧ mI M x = mI M0 x ∧ N ≤ u ∧ N ≤ w ∧ u ≠ w
section RQ
variable {Z : Nat → Nat} {N a x u n w c B : Nat} {E : Nat → Nat → Prop} {L : List Nat} {M0 M : gMem} {β : Type} {P : Option β → Prop}
theorem gq_N (G : GQ N E M0 a x u n w c L M) : N ≤ mN M := by have := G.2.1.2.2.2; have := G.2.2.2.2.2.1; omega
theorem GQ_F {d : Nat} {Q : List Nat} {M' : gMem} (G : GQ N E M0 a x u n w c L M) (S : BS a x d Q M') (F : FRt M M') : GQ N E M0 a x u n w d Q M' ∧ mI M' u = mI M u ∧ mI M' w = mI M w := by
  obtain ⟨O, i⟩ := OW_f G.2.1 F
  obtain ⟨O2, i2⟩ := OW_f G.2.2.1 F
  exact ⟨⟨S, O, O2, FRo_t G.2.2.2.1 (FRo_F F (gq_N G)), (FRt_x G.1 F).trans G.2.2.2.2.1, G.2.2.2.2.2⟩, i, i2⟩
theorem GQ_u {k : Nat} {v : Int32} (G : GQ N E M0 a x u n w c L M) : GQ N E M0 a x u n w c L (wI M u k v) ∧ mI (wI M u k v) w = mI M w := by
  obtain ⟨S, O1, O2, F, ex, h1, h2, h3⟩ := G
  exact ⟨⟨BS_I S O1.1, O1, O2, FRo_t F (FRo_I h1), (SM5_I (by have := O1.2.2.1; omega)).2.2.1.trans ex, h1, h2, h3⟩, (SM5_I (fun z => h3 z.symm)).2.2.1⟩
theorem GQ_w {k : Nat} {v : Int32} (G : GQ N E M0 a x u n w c L M) : GQ N E M0 a x u n w c L (wI M w k v) ∧ mI (wI M w k v) u = mI M u := by
  obtain ⟨S, O1, O2, F, ex, h1, h2, h3⟩ := G
  exact ⟨⟨BS_I S O2.1, O1, O2, FRo_t F (FRo_I h2), (SM5_I (by have := O2.2.2.1; omega)).2.2.1.trans ex, h1, h2, h3⟩, (SM5_I h3).2.2.1⟩
theorem wI_fun {M : gMem} {c k : Nat} {v : Int32} : mI (wI M c k v) c = fun j => if j = k then v else mI M c j := funext fun j => by
  by_cases e : j = k
  · rw [if_pos e, e]; exact up2_eq _ _ _ _
  · rw [if_neg e]; exact up2_ne (.inr e)
theorem gq_w {kk v : Int32} {K : gMem → Option β} (G : GQ N E M0 a x u n w c L M) (hi : inb kk 4) (h : ∀ M', GQ N E M0 a x u n w c L M' → mI M' w = (fun j => if j = kk.toNatClampNeg then v else mI M w j) → P (K M')) : P (ck (mT M w = 20) (ck (inb kk (mL M w)) (lw (wI M w kk.toNatClampNeg v) K))) := by
  rw [ck_t G.2.2.1.1, ck_t (by rw [G.2.2.1.2.1]; exact hi), lw_S]
  exact h _ (GQ_w G).1 wI_fun
theorem gq_app {j e : Nat} {K : Option Nat → gMem → Option β} (G : GQ N E M0 a x u n w c L M) (hj : j < 94) (he : (sLs j).length ≤ e) (hc : c + e ≤ 1199) (h : ∀ M', GQ N E M0 a x u n w (c + e) (L ++ sLs j) M' → mI M' u = mI M u → mI M' w = mI M w → FRt M M' → P (K (some a) M')) : P (bd (f_J4_append_15ec4_S Z M a j) K) :=
  r_app G.1 hj he hc (fun M' S F => h M' (GQ_F G S F).1 (GQ_F G S F).2.1 (GQ_F G S F).2.2 F)
theorem gq_int {y d : Nat} {z : Int32} {K : Option Nat → gMem → Option β} (G : GQ N E M0 a x u n w c L M) (hz : z = nI y) (hy : y < 1000) (hd : (dgL y).length ≤ d) (hc : c + d ≤ 1199) (h : ∀ M', GQ N E M0 a x u n w (c + d) (L ++ dgL y) M' → mI M' u = mI M u → mI M' w = mI M w → FRt M M' → P (K (some a) M')) : P (bd (f_J4_append_bf812 Z M a z) K) :=
  r_int G.1 hz hy hd hc (fun M' S F => h M' (GQ_F G S F).1 (GQ_F G S F).2.1 (GQ_F G S F).2.2 F)
theorem r_blw {n : Nat} {v y : Int32} {K : Int32 → gMem → Option β} (hy : y = nI n) (h0 : 0 < n) (hn : n < 2 ^ 31) (h : P (K (nI (blw v n)) M)) : P (bd (f_L_below M v y) K) := by
  rw [hy, (l_below (M := M) (v := v) h0 hn).1, bd_S]; exact h
end RQ
def memT (b F : Nat) : Nat → List Nat
  | 0 => []
  | k + 1 => memT b F k ++ (sLs (if k = 0 then 67 else 79) ++ sLs 46 ++ dgL ((b + k) % F))
/-- what the loop of members keeps -/
def MLs (N : Nat) (E : Nat → Nat → Prop) (M0 : gMem) (a x u n w c kc kn b F : Nat) (L : List Nat) (M : gMem) (k : Nat) (q : gMem × Nat × Nat × Int32) : Prop := ∃ M' kc' kn', q = (M', kc', kn', nI k) ∧ GQ N E M0 a x u n w (c + 3 * k) (L ++ memT b F k) M' ∧ mI M' w = mI M w ∧ (∀ i, i < k → mI M' u i = nI ((b + i) % F)) ∧ FRo N E M M' ∧ kc' ≤ kc + 3 * k ∧ kn' ≤ kn + 7200 * k
def MLp (N : Nat) (E : Nat → Nat → Prop) (M0 : gMem) (a x u n w c kc kn b F : Nat) (L : List Nat) (M : gMem) (k : Nat) (o : Option ((gMem × Nat × Nat × Int32) ⊕ ((gMem × Nat × Nat × Int32) ⊕ (Option Nat × gMem)))) : Prop := ∃ q, o = some (.inl q) ∧ MLs N E M0 a x u n w c kc kn b F L M k q
set_option maxRecDepth 100000 in
theorem m_step {Z : Nat → Nat} {N a x u n w c kc kn b F p k : Nat} {E : Nat → Nat → Prop} {L : List Nat} {M0 M : gMem} {y : Int32} {q : gMem × Nat × Nat × Int32} (hF : mI M0 x 1 = nI F) (hF1 : 1 ≤ F ∧ F ≤ 6) (hb : b = blw (y >>> ((4 : Int32) &&& 31)) F) (hn : n ≤ F) (hk : k < n) (hc : c + 18 ≤ 1199) (hq : kc + 18 ≤ 800 ∧ kn + 43200 ≤ 1200000) (H : MLs N E M0 a x u n w c kc kn b F L M k q) : MLp N E M0 a x u n w c kc kn b F L M (k + 1) (bb_L_shore_792 Z q.1 q.2.1 q.2.2.1 (some a) (some x) (nI p) y (nI n) (some u) (some w) q.2.2.2) := by
  obtain ⟨M', kc', kn', rfl, G, ew, ei, FF, hkc, hkn⟩ := H
  show MLp N E M0 a x u n w c kc kn b F L M (k + 1) (bb_L_shore_792 Z M' kc' kn' (some a) (some x) (nI p) y (nI n) (some u) (some w) (nI k))
  unfold bb_L_shore_792
  rw [if_neg (fun z => by have := (nI_leI (by omega) (by omega)).mp z; omega)]
  refine r_dx G.1 (p_ck ⟨by omega, by omega⟩ ?_)
  have eF : mI M' x 1 = nI F := by rw [G.2.2.2.2.1]; exact hF
  refine r_blw eF (by omega) (by omega) ?_
  rw [← hb, ck_t G.1.2.2.1, ck_t (show ¬ mI M' x 1 = 0 from fun z => by rw [eF] at z; have := (nI_eq (a := F) (b := 0) (by omega) (by decide)).mp z; omega), dr_S, ck_t G.2.1.1, ck_t (show inb (nI k) (mL M' u) by rw [G.2.1.2.1]; exact (inbN (by omega)).mpr hk), nI_clamp (by omega), lw_S]
  have hbF : b < F := by rw [hb]; exact (l_below (M := M') (v := y >>> ((4 : Int32) &&& 31)) (n := F) (by omega) (by omega)).2
  rw [rem_n (a := b + k) (b := F) (nI_add b k) eF (by omega) (by omega)]
  obtain ⟨G1, ew1⟩ := GQ_u (k := k) (v := nI ((b + k) % F)) G
  have eu1 : mI (wI M' u k (nI ((b + k) % F))) u = fun j => if j = k then nI ((b + k) % F) else mI M' u j := wI_fun
  have FF1 : FRo N E M' (wI M' u k (nI ((b + k) % F))) := FRo_I G.2.2.2.2.2.1
  generalize wI M' u k (nI ((b + k) % F)) = M1 at G1 ew1 eu1 FF1
  have hm : (b + k) % F < F := Nat.mod_lt _ (by omega)
  have fin : ∀ jj, jj < 94 → (sLs jj).length ≤ 1 → jj = (if k = 0 then 67 else 79) → MLp N E M0 a x u n w c kc kn b F L M (k + 1) (b_L_shore_836 Z M1 (kc' + 0) (kn' + 0) (some a) (some x) (nI p) y (nI n) (some u) (some w) (nI k) (some a) jj) := fun jj h1 h2 h3 => by
    unfold b_L_shore_836
    refine r_da G1.1 (p_ck ⟨by omega, by omega⟩ ?_)
    refine gq_app G1 (e := 1) h1 h2 (by omega) (fun M2 G2 u2 w2 F2 => ?_)
    refine r_da G2.1 (p_ck ⟨by omega, by omega⟩ ?_)
    refine gq_app G2 (e := 1) (by decide) (by decide) (by omega) (fun M3 G3 u3 w3 F3 => ?_)
    rw [dr_S, ck_t G3.2.1.1, ck_t (show inb (nI k) (mL M3 u) by rw [G3.2.1.2.1]; exact (inbN (by omega)).mpr hk)]
    refine r_da G3.1 (p_ck ⟨by omega, by omega⟩ ?_)
    refine gq_int G3 (y := (b + k) % F) (d := 1) (by rw [nI_clamp (by omega), u3, u2, eu1]; exact if_pos rfl) (by omega) (dgL_1 (by omega)) (by omega) (fun M4 G4 u4 w4 F4 => ?_)
    refine ⟨_, rfl, M4, _, _, by rw [nI_1], ?_, by rw [w4, w3, w2, ew1, ew], fun i hi => ?_, FRo_t FF (FRo_t FF1 (FRo_F (FRt_t F2 (FRt_t F3 F4)) (gq_N G1))), by omega, by rw [Nat.mul_succ]; omega⟩
    · show GQ N E M0 a x u n w (c + 3 * (k + 1)) (L ++ (memT b F k ++ (sLs (if k = 0 then 67 else 79) ++ sLs 46 ++ dgL ((b + k) % F)))) M4
      rw [← h3, show c + 3 * (k + 1) = c + 3 * k + 1 + 1 + 1 by omega]
      simp only [List.append_assoc] at G4 ⊢
      exact G4
    · rw [u4, u3, u2, eu1]
      show (if i = k then nI ((b + k) % F) else mI M' u i) = _
      by_cases c1 : i = k
      · rw [if_pos c1, c1]
      · rw [if_neg c1]; exact ei i (by omega)
  by_cases c0 : k = 0
  · rw [if_pos (show nI k ≤ 0 by rw [c0]; decide)]
    exact fin 67 (by decide) (by decide) (by rw [if_pos c0])
  · rw [if_neg (show ¬ nI k ≤ 0 from fun z => c0 (by have := (nI_leI (a := k) (b := 0) (by omega) (by decide)).mp z; omega))]
    exact fin 79 (by decide) (by decide) (by rw [if_neg c0])
