/-! ## Pure: tides in any block of the reference; what is foreseen there -/
theorem r_seq {pg : Nat → Nat} {m t a F G len np ng : Nat} {A st : Nat → Nat → Int32} {X : gMem} (L : LSt m t a X) (T : TR pg len A X t F G np ng) (W : WS A F G np ng) (D : WD A F G) (R : RS A st F G np) (hlen : len ≤ 400) : ∃ sq : Nat → Nat → Nat → Int32, sq 0 = st ∧ ∀ j, RS (tidesA pg len np ng F G A j) (sq j) F G np ∧ f_X12_pass (bC 17 a (sq j) X) a = some ((), bC 17 a (sq (j + 1)) X) := by
  have hF : F ≤ 8 := W.2.2.2.1
  have hG : G ≤ 8 := W.2.1
  have hp6 : np ≤ 6 := W.2.2.2.2.1.2.1
  have hng : ng ≤ 24 := W.2.2.2.2.2.1.2.1
  have nx : ∀ j (s : {st // RS (tidesA pg len np ng F G A j) st F G np}), ∃ st', f_X12_pass (bC 17 a s.1 X) a = some ((), bC 17 a st' X) ∧ RS (tidesA pg len np ng F G A (j + 1)) st' F G np := fun j s => by
    obtain ⟨w1, w2⟩ := tides_W (pg := pg) (len := len) W D j
    exact r_pass (pg := pg) L (TR_T hG hF hp6 hng w1 T) (WS_c w1 W) w2 s.2 hlen
  let sq : (j : Nat) → {st // RS (tidesA pg len np ng F G A j) st F G np} := fun j => Nat.rec ⟨st, R⟩ (fun j s => ⟨Classical.choose (nx j s), (Classical.choose_spec (nx j s)).2⟩) j
  exact ⟨fun j => (sq j).1, rfl, fun j => ⟨(sq j).2, (Classical.choose_spec (nx j (sq j))).1⟩⟩
/-- the gap between stores -/
def gapV (A : Nat → Nat → Int32) : Nat → Int32
  | 0 => 0
  | n + 1 => maxN (fun i => A (34 + 2 * i) 4) n - minN (fun i => A (34 + 2 * i) 4) n
theorem c_gapV {o F : Nat} {A : Nat → Nat → Int32} {M : gMem} (L : LC o M) (h3 : A 0 3 = nI F) (hF : F ≤ 8) : f_X7_storeGap (sC o A M) o = some (gapV A F, sC o A M) := by
  match F, h3, hF with
  | 0, h3, _ => exact s7_storeGap0 L h3
  | n + 1, h3, hF => exact s7_storeGap L h3 (by omega)
theorem m_gapV {m t a F G np kb : Nat} {A st : Nat → Nat → Int32} {X : gMem} (LA : LSt m t a X) (h4 : mI X t 4 = nI F) (hF : F ≤ 8) (hk : kb < 2 ^ 31) (R : RS A st F G np) (V : SVa kb A F G) : f_X12_gap (bC 17 a st X) a = some (gapV A F, bC 17 a st X) := by
  rw [r_gap LA h4 hF]
  match F, h4, hF, R, V with
  | 0, _, _, _, _ => rfl
  | n + 1, h4, hF, R, V =>
    rw [if_neg (by omega)]
    obtain ⟨g1, g2⟩ := gap_eq (f := st 5) n fun i hi => by
      obtain ⟨c, c1, c2⟩ := V.1 i hi
      exact ⟨c, by omega, by rw [(R.1.2.2.2 i hi).2.1]; exact c2⟩
    obtain ⟨k1, k2⟩ := mm_c (f := st 5) (h := fun i => A (34 + 2 * i) 4) n fun i hi => (R.1.2.2.2 i hi).2.1
    rw [g1, g2, k1, k2]
    rfl
theorem RS_fsh {A st : Nat → Nat → Int32} {F G np : Nat} (hG : G ≤ 8) (R : RS A st F G np) : sumN (st 1) (lenS 1) = sumN (fun i => sum5 (A (19 + 2 * i)) 5) G := by
  show sumN (st 1) 40 = _
  rw [sumN_ext (n := 5 * G) 40 (by omega) fun i i1 i2 => R.2.2.1 i i1 i2, sumN_5]
  exact sumN_c G fun g hg => (sum5_N 5 (f := A (19 + 2 * g)) (h := fun k => st 1 (5 * g + k)) (fun k hk => (R.1.2.1 g k hg hk).symm)).symm
/-- what is asked of a look ahead -/
def frV (A : Nat → Nat → Int32) (F G c : Nat) : Int32 := if c = 0 then sumN (fun i => A (34 + 2 * i) 4) F else if c = 1 then sumN (fun i => sum5 (A (19 + 2 * i)) 5) G else gapV A F
theorem r_foresee {pg : Nat → Nat} {m t F G len np ng n c kb : Nat} {A st : Nat → Nat → Int32} {X : gMem} (L : LSt m t (m + 41) X) (h14 : mR X m 14 = some (m + 41)) (T : TR pg len A X t F G np ng) (W : WS A F G np ng) (D : WD A F G) (R : RS A st F G np) (V : SVa kb A F G) (hlen : len ≤ 400) (hn : n ≤ 60) (hc : c < 3) (hk : kb + 792 * n < 2 ^ 31) : ∃ st', lp_X14_foresee_49 (bC 17 (m + 41) st X) m (nI n) (nI c) (nI 0) = some (frV (tidesA pg len np ng F G A n) F G c, bC 17 (m + 41) st' X) := by
  have hF : F ≤ 8 := W.2.2.2.1
  have hG : G ≤ 8 := W.2.1
  obtain ⟨sq, s0, hs⟩ := r_seq L T W D R hlen
  refine ⟨sq n, ?_⟩
  unfold lp_X14_foresee_49
  rw [← s0]
  refine lp_seq (f := fun (q : gMem × Int32) => bb_X14_foresee_49 q.1 m (nI n) (nI c) q.2) (fun j => (bC 17 (m + 41) (sq j) X, nI j)) 0 n (Nat.zero_le _) (fun j _ hj => ?_) ?_
  · show bb_X14_foresee_49 (bC 17 (m + 41) (sq j) X) m (nI n) (nI c) (nI j) = _
    have q1 : ¬ nI n ≤ nI j := fun q => by have := (nI_leI (by omega) (by omega)).mp q; omega
    unfold bb_X14_foresee_49
    rw [if_neg q1, ck_t (show mT (bC 17 (m + 41) (sq j) X) m = 13 from L.1.2.2.1), dr_s (show mR (bC 17 (m + 41) (sq j) X) m 14 = some (m + 41) from h14), ck_t (show mT (bC 17 (m + 41) (sq j) X) (m + 41) = 11 from L.1.1), bd_s (hs j).2, nI_1]
  · show bb_X14_foresee_49 (bC 17 (m + 41) (sq n) X) m (nI n) (nI c) (nI n) = _
    have h5 := (L.2.2.1 5 (by omega) (by omega)).2.2
    have h1 := (L.2.2.1 1 (by omega) (by omega)).2.2
    have Rn := (hs n).1
    unfold bb_X14_foresee_49 b_X14_foresee_117
    rw [if_pos (nI_le (Nat.le_refl _) (by omega))]
    obtain rfl | rfl | rfl : c = 0 ∨ c = 1 ∨ c = 2 := by omega
    · rw [if_pos (by decide), ck_t (show mT (bC 17 (m + 41) (sq n) X) m = 13 from L.1.2.2.1), dr_s (show mR (bC 17 (m + 41) (sq n) X) m 14 = some (m + 41) from h14), ck_t (show mT (bC 17 (m + 41) (sq n) X) (m + 41) = 11 from L.1.1), show mR (bC 17 (m + 41) (sq n) X) (m + 41) 6 = some (m + 41 + 5) from h5, bd_s (r_sum L (by omega) (by omega)), RS_sto hF Rn]
      rfl
    · rw [if_neg (by decide), if_pos (by decide), ck_t (show mT (bC 17 (m + 41) (sq n) X) m = 13 from L.1.2.2.1), dr_s (show mR (bC 17 (m + 41) (sq n) X) m 14 = some (m + 41) from h14), ck_t (show mT (bC 17 (m + 41) (sq n) X) (m + 41) = 11 from L.1.1), show mR (bC 17 (m + 41) (sq n) X) (m + 41) 2 = some (m + 41 + 1) from h1, bd_s (r_sum L (by omega) (by omega)), RS_fsh hG Rn]
      rfl
    · rw [if_neg (by decide), if_neg (by decide), ck_t (show mT (bC 17 (m + 41) (sq n) X) m = 13 from L.1.2.2.1), dr_s (show mR (bC 17 (m + 41) (sq n) X) m 14 = some (m + 41) from h14), ck_t (show mT (bC 17 (m + 41) (sq n) X) (m + 41) = 11 from L.1.1), bd_s (m_gapV L T.1.2.1 hF hk Rn (SVa_tides W D V n))]
      rfl
