/-! ## Pure: the law's text is read -/
theorem ES_sp {g : Nat → Nat} {c i e : Nat} {suf : List (Nat × Nat)} : ∀ (pre : List (Nat × Nat)) (k : Nat), ES g k (pre ++ (c, i) :: suf) e → tkC c = true → g i = kdC c ∧ i + 1 ≤ e
  | [], k, h, hc => by
    have h : ES g k ((c, i) :: suf) e := h
    rw [ES, if_pos (show tkC (c, i).1 = true from hc)] at h
    exact ⟨h.2.1, ES_le _ _ _ h.2.2⟩
  | x :: r, k, h, hc => by
    have h : ES g k (x :: (r ++ (c, i) :: suf)) e := h
    rw [ES] at h
    by_cases z : tkC x.1 = true
    · rw [if_pos z] at h; exact ES_sp r _ h.2.2 hc
    · rw [if_neg z] at h; exact ES_sp r _ h hc
theorem rl_1 {c : Nat} : (tkC c = true ∧ rl c = 1) ↔ c = 51 := by
  constructor
  · rintro ⟨-, h⟩
    unfold rl at h
    split at h
    · omega
    · split at h
      · omega
      · split at h
        · omega
        · split at h
          · omega
          · split at h <;> omega
  · rintro rfl; decide
theorem rl_2 {c : Nat} : (tkC c = true ∧ rl c = 2) ↔ c = 52 := by
  constructor
  · rintro ⟨-, h⟩
    unfold rl at h
    split at h
    · omega
    · split at h
      · omega
      · split at h
        · omega
        · split at h
          · omega
          · split at h <;> omega
  · rintro rfl; decide
theorem rl_3 {c : Nat} : (tkC c = true ∧ rl c = 3) ↔ c = 53 := by
  constructor
  · rintro ⟨-, h⟩
    unfold rl at h
    split at h
    · omega
    · split at h
      · omega
      · split at h
        · omega
        · split at h
          · omega
          · split at h <;> omega
  · rintro rfl; decide
theorem wkF_nm {vs : Nat → Nat} : ∀ (es : List (Nat × Nat)) (s : List Nat × List Nat × List Nat × List (List Nat) × Nat), (wkF s (es.map fun y => (y.1, vs y.2))).1 = s.1 ++ (tks 1 es).map vs ∧ (wkF s (es.map fun y => (y.1, vs y.2))).2.1 = s.2.1 ++ (tks 2 es).map vs ∧ (wkF s (es.map fun y => (y.1, vs y.2))).2.2.1 = s.2.2.1 ++ (tks 3 es).map vs ∧ (wkF s (es.map fun y => (y.1, vs y.2))).2.2.2.2 = s.2.2.2.2 + nc 54 es
  | [], s => ⟨(List.append_nil _).symm, (List.append_nil _).symm, (List.append_nil _).symm, rfl⟩
  | (c, i) :: r, s => by
    obtain ⟨h1, h2, h3, h4⟩ := wkF_nm r (wkS s (c, vs i))
    refine ⟨h1.trans ?_, h2.trans ?_, h3.trans ?_, h4.trans ?_⟩
    · show (if c = 51 then s.1 ++ [vs i] else s.1) ++ _ = s.1 ++ (if tkC c = true ∧ rl c = 1 then i :: tks 1 r else tks 1 r).map vs
      by_cases z : c = 51
      · rw [if_pos z, if_pos (rl_1.mpr z), List.append_assoc]; rfl
      · rw [if_neg z, if_neg (fun y => z (rl_1.mp y))]
    · show (if c = 52 then s.2.1 ++ [vs i] else s.2.1) ++ _ = s.2.1 ++ (if tkC c = true ∧ rl c = 2 then i :: tks 2 r else tks 2 r).map vs
      by_cases z : c = 52
      · rw [if_pos z, if_pos (rl_2.mpr z), List.append_assoc]; rfl
      · rw [if_neg z, if_neg (fun y => z (rl_2.mp y))]
    · show (if c = 53 then s.2.2.1 ++ [vs i] else s.2.2.1) ++ _ = s.2.2.1 ++ (if tkC c = true ∧ rl c = 3 then i :: tks 3 r else tks 3 r).map vs
      by_cases z : c = 53
      · rw [if_pos z, if_pos (rl_3.mpr z), List.append_assoc]; rfl
      · rw [if_neg z, if_neg (fun y => z (rl_3.mp y))]
    · show (if c = 54 then s.2.2.2.2 + 1 else s.2.2.2.2) + nc 54 r = s.2.2.2.2 + ((if c = 54 then 1 else 0) + nc 54 r)
      split <;> omega
theorem GE_w {vs : Nat → Nat} {o : Nat} {pre : List (Nat × Nat)} {c i : Nat} {C : gMem} {s : List Nat × List Nat × List Nat × List (List Nat) × Nat} (e1 : (tks 1 pre).map vs = s.1) (e2 : (tks 2 pre).map vs = s.2.1) (e3 : (tks 3 pre).map vs = s.2.2.1) (e4 : nc 54 pre = s.2.2.2.2) (n8 : (tks 2 pre).length ≤ 8) (I : wkI o s C) (hc : wkC s (c, vs i)) : GE vs o pre c i C := by
  have l1 : s.1.length = (tks 1 pre).length := by rw [← e1, List.length_map]
  have l2 : s.2.1.length = (tks 2 pre).length := by rw [← e2, List.length_map]
  have l3 : s.2.2.1.length = (tks 3 pre).length := by rw [← e3, List.length_map]
  obtain ⟨h51, h52, h53, h54, h55, h57, h58, h59, h1000, hf, hgn⟩ := hc
  have k1 : lkL vs (vs i) (tks 1 pre) 0 = lkV (vs i) s.1 0 := by rw [lkV_map, e1]
  have k2 : lkL vs (vs i) (tks 2 pre) 0 = lkV (vs i) s.2.1 0 := by rw [lkV_map, e2]
  have k3 : lkL vs (vs i) (tks 3 pre) 0 = lkV (vs i) s.2.2.1 0 := by rw [lkV_map, e3]
  unfold GE
  rw [k1, k2, k3, ← l1, ← l2, ← l3, e4]
  refine ⟨h51, h52, h53, h54, h55, h57, h58, h59, h1000, fun z => ?_, hgn⟩
  obtain ⟨j, j1, j2⟩ := hf z
  refine ⟨j, j1, fun z2 => ?_⟩
  obtain ⟨ms, m, q1, q2, q3⟩ := j2 z2
  obtain ⟨-, i2, i3⟩ := I
  have il : s.2.2.1.length = ms.length + 1 := by rw [← i2, q1, List.length_append]; rfl
  have hp : s.2.2.1.length - 1 = ms.length := by omega
  have ii := i3 ms.length (by omega)
  rw [q1, getD_r] at ii
  obtain ⟨u1, u2, u3⟩ := ii
  rw [hp]
  intro k hk e
  rw [cn_e u1 (by omega)] at hk
  obtain ⟨v1, v2⟩ := u3 k hk
  rw [v1] at e
  have hj : j < 2 ^ 31 := by
    have := (lkL_lt (k2.trans j1)).2
    omega
  have := (nI_eq (by omega) hj).mp e
  apply q2
  rw [← this, List.getD_eq_getElem?_getD, List.getElem?_eq_getElem hk]
  exact List.getElem_mem hk
section RDK
variable {Z g ps vs : Nat → Nat} {K r p o : Nat} {M0 M : gMem}
theorem told_ok (W : CWd Z g ps vs K r p o M0) (B : CB r p o M) (CF : CI r o M0 (fgM o M)) (h6 : mI M r 6 = nI 0) (h7 : mI M r 7 = 0) (hx : ∀ x, isX r x → mI M x 1 = 0) (hvs : ∀ i, vs i < 2 ^ 62) (hv6 : ∀ i, i ≤ K → g i = 41 → vs i < 1000000) {a : List (List (Nat × Nat × List Nat) × List Nat × List (Nat × Nat))} {t : List Nat} {tv : List (Nat × Nat)} (LS : LNS a t tv) (ha : a.length ≤ 21) (hg : ∀ i, i < (flI a).length → g i = kdA (flI a) i ∧ vs i = vlA (flI a) i) (he : g (flI a).length = 42) (wa : wkA ([], [], [], [], 0) tv) :
    ∃ C1 D qE es k, f_X6_read Z M r = some ((0 : Int32), C1) ∧ CI r o M0 C1 ∧ es.map (fun y => (y.1, vs y.2)) = tv ∧ wkI o (wkF ([], [], [], [], 0) tv) C1 ∧ RA Z vs r o 0 7 (tks 1 es) (tks 2 es) (tks 3 es) (ceL es) (nc 54 es) k qE C1 D ∧ LSq qE ∧ (ceL es).length ≤ 400 ∧ PG Z (fun s => ((ceL es).getD s (0, 0)).1) o (ceL es).length C1 (fun d k => mI C1 (o + d) k) ∧ WS (fun d k => mI C1 (o + d) k) (tks 2 es).length (tks 1 es).length (tks 3 es).length (nc 54 es) ∧ WD (fun d k => mI C1 (o + d) k) (tks 2 es).length (tks 1 es).length := by
  have hes := LNS_x (g := g) 0 401 LS (by omega) (fun i hi => by rw [Nat.zero_add]; exact (hg i hi).1) (by rw [Nat.zero_add]; exact he)
  have hev := LNS_v (vs := vs) 0 LS (fun i hi => by rw [Nat.zero_add]; exact (hg i hi).2)
  generalize evA 0 a = es at hes hev
  generalize 0 + (flI a).length = e at hes
  have hK := W.2.2.2.2.2.1
  obtain ⟨fe, -⟩ := NN_txL W.2.2.2.2.2.2 hK 401 0 (Nat.zero_le _) (by omega)
  rw [hes] at fe
  obtain ⟨k3, -, ESe, -⟩ := fe
  have nm : ∀ pre, (tks 1 pre).map vs = (wkF ([], [], [], [], 0) (pre.map fun y => (y.1, vs y.2))).1 ∧ (tks 2 pre).map vs = (wkF ([], [], [], [], 0) (pre.map fun y => (y.1, vs y.2))).2.1 ∧ (tks 3 pre).map vs = (wkF ([], [], [], [], 0) (pre.map fun y => (y.1, vs y.2))).2.2.1 ∧ nc 54 pre = (wkF ([], [], [], [], 0) (pre.map fun y => (y.1, vs y.2))).2.2.2.2 := fun pre => by
    obtain ⟨n1, n2, n3, n4⟩ := wkF_nm (vs := vs) pre ([], [], [], [], 0)
    exact ⟨by rw [n1]; rfl, by rw [n2]; rfl, by rw [n3]; rfl, by rw [n4]; exact (Nat.zero_add _).symm⟩
  have wc : ∀ pre suf c i, es = pre ++ (c, i) :: suf → wkC (wkF ([], [], [], [], 0) (pre.map fun y => (y.1, vs y.2))) (c, vs i) := fun pre suf c i e1 => by
    have := wa
    rw [← hev, e1, List.map_append, wkA_app] at this
    exact this.2.1
  obtain ⟨C1, D, qE, c1, c2, c3, c4, c5, c6, c7, c8, c9, c10, c11, -⟩ := CD_core (Iv := fun pre _ _ C => wkI o (wkF ([], [], [], [], 0) (pre.map fun y => (y.1, vs y.2))) C) W B CF h6 h7 hx hvs hv6 hes ⟨fun g hg => absurd hg (Nat.not_lt_zero _), rfl, fun p hp => absurd hp (Nat.not_lt_zero _)⟩ (fun pre suf c i q q1 h h1 k C D e1 CC R hA hH I => by
    obtain ⟨n1, n2, n3, n4⟩ := nm pre
    rw [List.map_append, wkF_app]
    exact wkI_s W CC R (fun z => by
      have := ES_sp pre 0 (by rw [← e1]; exact ESe) z
      exact ⟨by omega, this.1⟩) hvs hA n1 n2 n3 (wc pre suf c i e1) I) (fun pre suf c i q h k C D e1 R I => by
    obtain ⟨n1, n2, n3, n4⟩ := nm pre
    exact GE_w n1 n2 n3 n4 R.2.2.1.1.1.2.1 I (wc pre suf c i e1))
  have I1 : wkI o (wkF ([], [], [], [], 0) tv) C1 := by
    rw [← hev]
    obtain ⟨i1, i2, i3⟩ := c5
    obtain ⟨hp, ho⟩ := W_ho W
    have l1 : ∀ a k, a < r → mI C1 a k = mI (rnE Z r p o es (fgM o M)) a k := fun a k h => c4 a k (.inl (by omega))
    have m8 : (wkF ([], [], [], [], 0) (es.map fun y => (y.1, vs y.2))).1.length ≤ 8 := by
      rw [← (nm es).1, List.length_map]; exact c6.2.1.1.1.2.1
    have m6 : (wkF ([], [], [], [], 0) (es.map fun y => (y.1, vs y.2))).2.2.1.length ≤ 6 := by
      rw [← (nm es).2.2.1, List.length_map]; exact c6.2.2.2.2.1.1.2.2.2.1
    exact wkI_fr rfl rfl rfl m8 m6 (fun a k h => l1 a k (by unfold mcl at h; omega)) ⟨i1, i2, i3⟩
  exact ⟨C1, D, qE, es, _, c1, c2, hev, I1, c6, c7, c8, c9, c10, c11⟩
end RDK
