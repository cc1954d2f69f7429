/-! What holds at the law's entry: the statics by one function, at every warm state -/
def qzZ (ad : Nat → Nat) (x5zq x6 x8 x9 x10 bA LL : Nat) (zx : Nat → Nat) (zs : Nat → Nat × Nat) (i : Nat) : Nat := if i < 45 then ad i else if i = 45 then x5zq else if i = 46 then x6 else if i = 48 then x8 else if i = 49 then x9 else if i = 50 then x10 else if i = 400 then bA else if i = 401 then LL else if i < 300 then (zs (i - 100)).1 else if i < 400 then (zs (i - 300)).2 else zx (i - 1000)
theorem qzZ_0 {ad : Nat → Nat} {x5zq x6 x8 x9 x10 bA LL : Nat} {zx : Nat → Nat} {zs : Nat → Nat × Nat} {i : Nat} (hi : i < 45) : qzZ ad x5zq x6 x8 x9 x10 bA LL zx zs i = ad i := if_pos hi
theorem qzZ_5 {ad : Nat → Nat} {x5zq x6 x8 x9 x10 bA LL : Nat} {zx : Nat → Nat} {zs : Nat → Nat × Nat} : qzZ ad x5zq x6 x8 x9 x10 bA LL zx zs 45 = x5zq := by simp [qzZ]
theorem qzZ_6 {ad : Nat → Nat} {x5zq x6 x8 x9 x10 bA LL : Nat} {zx : Nat → Nat} {zs : Nat → Nat × Nat} : qzZ ad x5zq x6 x8 x9 x10 bA LL zx zs 46 = x6 := by simp [qzZ]
theorem qzZ_8 {ad : Nat → Nat} {x5zq x6 x8 x9 x10 bA LL : Nat} {zx : Nat → Nat} {zs : Nat → Nat × Nat} : qzZ ad x5zq x6 x8 x9 x10 bA LL zx zs 48 = x8 := by simp [qzZ]
theorem qzZ_9 {ad : Nat → Nat} {x5zq x6 x8 x9 x10 bA LL : Nat} {zx : Nat → Nat} {zs : Nat → Nat × Nat} : qzZ ad x5zq x6 x8 x9 x10 bA LL zx zs 49 = x9 := by simp [qzZ]
theorem qzZ_10 {ad : Nat → Nat} {x5zq x6 x8 x9 x10 bA LL : Nat} {zx : Nat → Nat} {zs : Nat → Nat × Nat} : qzZ ad x5zq x6 x8 x9 x10 bA LL zx zs 50 = x10 := by simp [qzZ]
theorem qzZ_b {ad : Nat → Nat} {x5zq x6 x8 x9 x10 bA LL : Nat} {zx : Nat → Nat} {zs : Nat → Nat × Nat} : qzZ ad x5zq x6 x8 x9 x10 bA LL zx zs 400 = bA := by simp [qzZ]
theorem qzZ_L {ad : Nat → Nat} {x5zq x6 x8 x9 x10 bA LL : Nat} {zx : Nat → Nat} {zs : Nat → Nat × Nat} : qzZ ad x5zq x6 x8 x9 x10 bA LL zx zs 401 = LL := by simp [qzZ]
theorem qzZ_K {ad : Nat → Nat} {x5zq x6 x8 x9 x10 bA LL : Nat} {zx : Nat → Nat} {zs : Nat → Nat × Nat} {i : Nat} (hi : i < 94) : qzZ ad x5zq x6 x8 x9 x10 bA LL zx zs (100 + i) = (zs i).1 := by
  have h0 : ¬ 100 + i < 45 := by omega
  have h1 : ¬ 100 + i = 45 := by omega
  have h2 : ¬ 100 + i = 46 := by omega
  have h3 : ¬ 100 + i = 48 := by omega
  have h4 : ¬ 100 + i = 49 := by omega
  have h5 : ¬ 100 + i = 50 := by omega
  have h6 : ¬ 100 + i = 400 := by omega
  have h7 : ¬ 100 + i = 401 := by omega
  have h8 : 100 + i < 300 := by omega
  unfold qzZ
  rw [if_neg h0, if_neg h1, if_neg h2, if_neg h3, if_neg h4, if_neg h5, if_neg h6, if_neg h7, if_pos h8, Nat.add_sub_cancel_left]
theorem qzZ_V {ad : Nat → Nat} {x5zq x6 x8 x9 x10 bA LL : Nat} {zx : Nat → Nat} {zs : Nat → Nat × Nat} {i : Nat} (hi : i < 94) : qzZ ad x5zq x6 x8 x9 x10 bA LL zx zs (300 + i) = (zs i).2 := by
  have h0 : ¬ 300 + i < 45 := by omega
  have h1 : ¬ 300 + i = 45 := by omega
  have h2 : ¬ 300 + i = 46 := by omega
  have h3 : ¬ 300 + i = 48 := by omega
  have h4 : ¬ 300 + i = 49 := by omega
  have h5 : ¬ 300 + i = 50 := by omega
  have h6 : ¬ 300 + i = 400 := by omega
  have h7 : ¬ 300 + i = 401 := by omega
  have h8 : ¬ 300 + i < 300 := by omega
  have h9 : 300 + i < 400 := by omega
  unfold qzZ
  rw [if_neg h0, if_neg h1, if_neg h2, if_neg h3, if_neg h4, if_neg h5, if_neg h6, if_neg h7, if_neg h8, if_pos h9, Nat.add_sub_cancel_left]
theorem qzZ_X {ad : Nat → Nat} {x5zq x6 x8 x9 x10 bA LL : Nat} {zx : Nat → Nat} {zs : Nat → Nat × Nat} {i : Nat} : qzZ ad x5zq x6 x8 x9 x10 bA LL zx zs (1000 + i) = zx i := by
  have h0 : ¬ 1000 + i < 45 := by omega
  have h1 : ¬ 1000 + i = 45 := by omega
  have h2 : ¬ 1000 + i = 46 := by omega
  have h3 : ¬ 1000 + i = 48 := by omega
  have h4 : ¬ 1000 + i = 49 := by omega
  have h5 : ¬ 1000 + i = 50 := by omega
  have h6 : ¬ 1000 + i = 400 := by omega
  have h7 : ¬ 1000 + i = 401 := by omega
  have h8 : ¬ 1000 + i < 300 := by omega
  have h9 : ¬ 1000 + i < 400 := by omega
  unfold qzZ
  rw [if_neg h0, if_neg h1, if_neg h2, if_neg h3, if_neg h4, if_neg h5, if_neg h6, if_neg h7, if_neg h8, if_neg h9, Nat.add_sub_cancel_left]
theorem qz_Tc {ty : FieldType} {t N : Nat} {f g : Nat → Value} {A : Nat → Prop} {U : State} {H : Heap} (h : va_T ty t N f A U H) (hfg : ∀ j : Nat, j < N → f j = g j) : va_T ty t N g A U H := by
  obtain ⟨cell, h1, h2, h3, h4, h5, h6, h7⟩ := h
  exact ⟨cell, h1, h2, h3, h4, h5, fun j hj => by rw [← hfg j hj]; exact h6 j hj, h7⟩
def qzIsN : Cond → Bool
  | .fieldLinkNest .. => true
  | .methodLinkNest .. => true
  | _ => false
theorem qz_gNsN : gNs.all (fun w => qzIsN w && w.onTables) = true := by decide +kernel
theorem qz_nw {w : Cond} {s U : State} (hW : s.WarmedH U.vm) (hb : qzIsN w = true) (h : va_Nw w s) : va_Nw w U := by
  cases w with
  | fieldLinkNest a i b n d z => exact va_Nw.warmF hW h
  | methodLinkNest a i y z => exact va_Nw.warmM hW h
  | _ => exact absurd (show (false : Bool) = true from hb) (by decide)
def qzIsX : Cond → Bool
  | .arrayOver (.array _) => true
  | .arrayOver (.object _) => true
  | .declares _ => true
  | .castable _ _ => true
  | _ => false
theorem qz_xeX : qzXe.all qzIsX = true := by decide +kernel
theorem qz_xw {w : Cond} {s U : State} (hW : s.WarmedH U.vm) (hb : qzIsX w = true) (h : va_Nw w s) : va_Nw w U := by
  cases w with
  | arrayOver ty =>
    cases ty with
    | array t => exact over_moved hW.alike h
    | object C => exact va_AO.moved hW.alike h
    | _ => exact absurd (show (false : Bool) = true from hb) (by decide)
  | declares y => exact va_Nw.warmD hW h
  | castable C T => exact va_Nw.warmC hW h
  | _ => exact absurd (show (false : Bool) = true from hb) (by decide)
theorem qz_x0 {w : Cond} {args : Array Value} {s : State} (hb : qzIsX w = true) (h : w.before args s = true) : va_Nw w s := by
  cases w with
  | arrayOver ty => exact h
  | declares y => exact va_Nw.of rfl h
  | castable C T => exact va_Nw.of rfl h
  | _ => exact absurd (show (false : Bool) = true from hb) (by decide)
theorem qz_gN2X {w : Cond} (hw : w ∈ gN2) : w ∈ qzXe := of_decide_eq_true (List.all_eq_true.mp qz_gN2 w hw)
theorem qz_gN2b {w : Cond} (hw : w ∈ gN2) : qzIsX w = true := List.all_eq_true.mp qz_xeX w (qz_gN2X hw)
theorem qz_gNsb {w : Cond} (hw : w ∈ gNs) : qzIsN w = true ∧ w.onTables = true := by
  have h := List.all_eq_true.mp qz_gNsN w hw
  rw [Bool.and_eq_true] at h
  exact h
/-- what holds of the statics stays so at every warm state -/
theorem qz_warm {Z : Nat → Nat} {B : Nat} {H0 : Heap} {s U : State} (hW : s.WarmedH U.vm) (h : gSt2 Z B H0 s) : gSt2 Z B H0 U := by
  obtain ⟨⟨a1, a2, a3, a4, a5, ⟨a6, a7⟩, ⟨b6, b7⟩, ⟨cS, a8, -⟩, a9, a10, a11, a12, a13⟩, b1, b2, ⟨b3, c3⟩, b4, b5⟩ := h
  have hv := hW.alike
  exact ⟨⟨va_En.moved hv a1, va_Z.moved hv a2, va_T.moved hv a3, va_Z.moved hv a4, va_T.moved hv a5, ⟨va_Z.moved hv a6, va_T.moved hv a7⟩, ⟨va_Z.moved hv b6, va_T.moved hv b7⟩, ⟨cS, by rw [hv.findClass]; exact a8, va_asg _ _⟩, fun i hi => va_OF.moved hv (a9 i hi), fun w hw => qz_nw hW (qz_gNsb hw).1 (a10 w hw), fun i hi => ⟨va_O.moved hv (a11 i hi).1, va_OF.moved hv (a11 i hi).2.1, va_OF.moved hv (a11 i hi).2.2.1, va_T.moved hv (a11 i hi).2.2.2⟩, va_Z.moved hv a12, va_Z.moved hv a13⟩, fun w hw => qz_xw hW (qz_gN2b hw) (b1 w hw), fun q hq => by
    obtain ⟨a, ha⟩ := b2 q hq
    exact ⟨a, vk_R.warm hW ha⟩, ⟨fun q hq => vk_R.warm hW (b3 q hq), va_T.moved hv c3⟩, vx_Zq.moved hv b4, vx_Zq.moved hv b5⟩
/-- the same place, or another sign -/
theorem qz_inj {ad : Nat → Nat} {A : Nat → Prop} {s : State} (hor : ∀ i : Nat, i < 45 → va_OF "java/lang/Enum" "ordinal" "I" (.int (gOrd.getD i 0)) (ad i) A s s.heap) (i j : Nat) (hi : i < 45) (hj : j < 45) (e : ad i = ad j) : i = j := by
  obtain ⟨cf, k, fi, f, cell, f1, f2, f3, f4, f5, f6zq⟩ := hor i hi
  obtain ⟨cg, kg, gi, g, cellg, g1, g2, g3zq, g4, g5, g6⟩ := hor j hj
  rw [← e] at g3zq
  have e1zq : f = g := by
    have h := congrArg (fun z : ClassId × Class × Nat × Field => z.2.2.2) (Option.some.inj (f1.symm.trans g1))
    exact h
  have e2zq : cell = cellg := Option.some.inj (f3.symm.trans g3zq)
  rw [← e1zq, ← e2zq] at g5
  have e3zq := Option.some.inj (f5.symm.trans g5)
  have e4zq : gOrd.getD i 0 = gOrd.getD j 0 := Value.int.inj e3zq
  rw [gOrd_nI i hi, gOrd_nI j hj] at e4zq
  have e5zq := congrArg Int32.toNatClampNeg e4zq
  rw [nI_clamp (by omega), nI_clamp (by omega)] at e5zq
  exact e5zq
theorem qz_ofn (x : Int32) : Int32.ofNat x.toBitVec.toNat = x := by
  apply Int32.toBitVec_inj.mp
  show BitVec.ofNat 32 x.toBitVec.toNat = x.toBitVec
  simp
/-- texts at one address are the same text -/
theorem qz_same {A : Nat → Prop} {s : State} {i j a v w : Nat} (hi : i < 94) (hj : j < 94) (h1 : va_OF "java/lang/String" "value" "[B" (.ref v) a A s s.heap) (h2 : va_OF "java/lang/String" "value" "[B" (.ref w) a A s s.heap) (t1 : va_T .byte v (sLn i) (fun k => .int (sBy i k)) A s s.heap) (t2 : va_T .byte w (sLn j) (fun k => .int (sBy j k)) A s s.heap) : sLs i = sLs j := by
  obtain ⟨cf, k, fi, f, cell, f1, f2, f3, f4, f5, f6⟩ := h1
  obtain ⟨cg, kg, gi, g, cellg, g1, g2, g3, g4, g5, g6⟩ := h2
  have e1 : f = g := by
    have h := congrArg (fun z : ClassId × Class × Nat × Field => z.2.2.2) (Option.some.inj (f1.symm.trans g1))
    exact h
  have e2 : cell = cellg := Option.some.inj (f3.symm.trans g3)
  rw [← e1, ← e2] at g5
  have e3 := Option.some.inj (f5.symm.trans g5)
  have e4 : v = w := Value.ref.inj e3
  rw [← e4] at t2
  obtain ⟨c1, p1, p2, p3, p4, p5, p6, p7⟩ := t1
  obtain ⟨c2, q1, q2, q3, q4, q5, q6, q7⟩ := t2
  have e5 : c1 = c2 := Option.some.inj (p1.symm.trans q1)
  rw [← e5] at q5 q6
  have l1 := qz_lt31 i hi
  have l2 := qz_lt31 j hj
  have n1 := qz_len i hi
  have n2 := qz_len j hj
  have e6 : nI (sLn i) = nI (sLn j) := p5.symm.trans q5
  have e7 := congrArg Int32.toNatClampNeg e6
  rw [nI_clamp (by omega), nI_clamp (by omega)] at e7
  have e8 : gSb.getD i [] = gSb.getD j [] := by
    apply List.ext_getElem (by omega)
    intro k hk1 hk2
    have r1 := p6 k (by omega)
    have r2 := q6 k (by omega)
    have r3 := Value.int.inj (Option.some.inj (r1.symm.trans r2))
    have r4 : (gSb.getD i []).getD k 0 = (gSb.getD j []).getD k 0 := r3
    have gk : ∀ (u : List Int32) (h : k < u.length), u[k] = u.getD k 0 := fun u h => by simp [List.getD_eq_getElem?_getD, h]
    rw [gk _ hk1, gk _ hk2]
    exact r4
  unfold sLs
  rw [e8]
/-- what the Statement gives of the statics, by one function -/
theorem qz_start {b L : Nat} {xs : Nat → Int32} {s : State} (hL : L ≤ 260) (hts : ∀ w ∈ lw_tbl, w.before #[Value.ref b] s = true) (hX : va_X b L xs s s.heap) (hgv : (Cond.and given_1 narrow_1).before #[Value.ref b] s = true) : ∃ Z : Nat → Nat, Z 400 = b ∧ (∀ a b : Nat, a < 45 → b < 45 → Z a = Z b → a = b) ∧ ZHy Z s.heap.size ∧ gSt2 Z s.heap.size s.heap s := by
  have hn : narrow_1.before #[Value.ref b] s = true := qz_r hgv
  have hA : ∀ a : Nat, a < s.heap.size → ¬ gA s.heap.size a := fun a h1 h2 => Nat.not_le.mpr h1 h2
  have hsg := qz_sgs hn
  have hst := qz_strs hn
  have q0 : ∀ i : Nat, ∃ z : Nat × Nat, i < 94 → (qzS i).eval #[Value.ref b] s none [] s = some (.ref z.1) ∧ va_O "java/lang/String" z.1 (gA s.heap.size) s s.heap ∧ va_OF "java/lang/String" "coder" "B" (.int 0) z.1 (gA s.heap.size) s s.heap ∧ va_OF "java/lang/String" "value" "[B" (.ref z.2) z.1 (gA s.heap.size) s s.heap ∧ va_T .byte z.2 (sLn i) (fun j => .int (sBy i j)) (gA s.heap.size) s s.heap := by
    intro i
    by_cases hi : i < 94
    · obtain ⟨a, v, e1zq, e2zq, e3zq, e4zq, e5zq⟩ := qz_of (hst i hi) (Nat.lt_trans (qz_lt31 i hi) (by decide)) hA
      rw [qz_len i hi] at e5zq
      exact ⟨(a, v), fun _ => ⟨e1zq, e2zq, e3zq, e4zq, e5zq⟩⟩
    · exact ⟨(0, 0), fun h => absurd h hi⟩
  obtain ⟨zs, hzs⟩ := Classical.axiomOfChoice q0
  have q1 : ∀ i : Nat, ∃ t : Nat, i < 45 → (qzT i).eval #[Value.ref b] s none [] s = some (.ref t) ∧ va_O "TideLots$Sign" t (gA s.heap.size) s s.heap := by
    intro i
    by_cases hi : i < 45
    · obtain ⟨a, c, cell, k, r1, r2, r3, r4, r5zq, r6, -⟩ := Cond.exactly_spec (args := #[Value.ref b]) (first := s) (o := none) (s := s) (idx := []) (t := qzT i) (cls := "TideLots$Sign") (hsg i hi).1
      exact ⟨a, fun _ => ⟨r1, cell, r3, r5zq, by rw [r6]; exact r2, hA a (Array.getElem?_eq_some_iff.mp r3).1⟩⟩
    · exact ⟨0, fun h => absurd h hi⟩
  obtain ⟨ad, had⟩ := Classical.axiomOfChoice q1
  have hor : ∀ i : Nat, i < 45 → va_OF "java/lang/Enum" "ordinal" "I" (.int (gOrd.getD i 0)) (ad i) (gA s.heap.size) s s.heap := fun i hi => vk_OFof (had i hi).1 (va_eqt (hsg i hi).2.1) hA
  have hinj := qz_inj hor
  obtain ⟨tS, eS, TSzq⟩ := va_Tof (args := #[Value.ref b]) (s := s) (tm := .static "TideLots" "SIGNS" "[LTideLots$Sign;") (ty := .object "TideLots$Sign") (N := 45) (f := fun i => .ref (ad i)) (A := gA s.heap.size) (by decide) (qz_pe_a hn) (va_eqt (qz_pe_n hn)) (fun j hj => va_eqv (qz_pes hn j hj) (had j hj).1) hA
  obtain ⟨tW, eW, TW⟩ := va_Tof (args := #[Value.ref b]) (s := s) (tm := .static "TideLots$1" "$SwitchMap$TideLots$Sign" "[I") (ty := .int) (N := 45) (f := fun i => .int (gSw i)) (A := gA s.heap.size) (by decide) (qz_pw_a hn) (va_eqt (qz_pw_n hn)) (fun j hj => va_eqt (qz_pws hn j hj)) hA
  obtain ⟨tD, eD, TD⟩ := va_Tof (args := #[Value.ref b]) (s := s) (tm := .static "java/lang/Integer" "DigitOnes" "[B") (ty := .byte) (N := 100) (f := fun i => .int (gDo i)) (A := gA s.heap.size) (by decide) (qz_po_a hn) (va_eqt (qz_po_n hn)) (fun j hj => va_eqt (qz_pos hn j hj)) hA
  obtain ⟨tE, eE, TE⟩ := va_Tof (args := #[Value.ref b]) (s := s) (tm := .static "java/lang/Integer" "DigitTens" "[B") (ty := .byte) (N := 100) (f := fun i => .int (gDt i)) (A := gA s.heap.size) (by decide) (qz_pt_a hn) (va_eqt (qz_pt_n hn)) (fun j hj => va_eqt (qz_pts hn j hj)) hA
  obtain ⟨z8, h8⟩ : ∃ z8 : Nat, va_Z "jdk/internal/util/Preconditions" "SIOOBE_FORMATTER" "Ljava/util/function/BiFunction;" (va_rf (zopt z8)) (gA s.heap.size) s s.heap := by
    rcases va_Zqof (qz_o5 hts) (qz_o12 hts) (qz_si hn) hA with h | ⟨t, h⟩
    · exact ⟨0, h⟩
    · refine ⟨t + 1, ?_⟩
      rw [show zopt (t + 1) = some t by simp [zopt]]
      exact h
  generalize hZe : qzZ ad tS tW z8 tD tE b L (fun j => (xs j).toBitVec.toNat) zs = Z
  have K0 : ∀ i : Nat, i < 45 → Z i = ad i := fun i hi => by rw [← hZe]; exact qzZ_0 hi
  have KKzq : ∀ i : Nat, i < 94 → Z (100 + i) = (zs i).1 := fun i hi => by rw [← hZe]; exact qzZ_K hi
  have KV : ∀ i : Nat, i < 94 → Z (300 + i) = (zs i).2 := fun i hi => by rw [← hZe]; exact qzZ_V hi
  have K5 : Z 45 = tS := by rw [← hZe]; exact qzZ_5
  have K6 : Z 46 = tW := by rw [← hZe]; exact qzZ_6
  have K8 : Z 48 = z8 := by rw [← hZe]; exact qzZ_8
  have K9 : Z 49 = tD := by rw [← hZe]; exact qzZ_9
  have K10 : Z 50 = tE := by rw [← hZe]; exact qzZ_10
  have Kb : Z 400 = b := by rw [← hZe]; exact qzZ_b
  have KL : Z 401 = L := by rw [← hZe]; exact qzZ_L
  have KX : ∀ j : Nat, Int32.ofNat (Z (1000 + j)) = xs j := fun j => by rw [← hZe, qzZ_X]; exact qz_ofn _
  have hX2 : va_T .int b L (fun j => .int (xs j)) (gA s.heap.size) s s.heap := by
    obtain ⟨scr, x1, x2, x3, x4, x5⟩ := hX
    exact ⟨scr, x1, x2, x3, Nat.le_of_eq x4.symm, by rw [x4], x5, hA b (Array.getElem?_eq_some_iff.mp x1).1⟩
  refine ⟨Z, Kb, fun a c ha hc e => hinj a c ha hc (by rw [← K0 a ha, ← K0 c hc]; exact e), ⟨by rw [KL]; omega, fun j hj => ?_, fun i j hi hj e => ?_⟩, ⟨⟨?_, ?_, ?_, ?_, ?_, ⟨?_, ?_⟩, ⟨?_, ?_⟩, ?_, ?_, ?_, ?_, ?_, ?_⟩, ?_, ?_, ⟨?_, ?_⟩, ?_, ?_⟩⟩
  · rw [KKzq j hj]
    obtain ⟨cell, r1, r2, r3, r4⟩ := (hzs j hj).2.1
    exact (Array.getElem?_eq_some_iff.mp r1).1
  · rw [KKzq i hi, KKzq j hj] at e
    have h1 := (hzs i hi).2.2.2
    have h2 := (hzs j hj).2.2.2
    rw [← e] at h2
    exact qz_same hi hj h1.1 h2.1 h1.2 h2.2
  · refine ⟨fun i hi => ?_, fun i j hi hj e => hinj i j hi hj (by rw [← K0 i hi, ← K0 j hj]; exact e)⟩
    have hi : i < 45 := hi
    rw [K0 i hi]
    refine ⟨va_Zref (hts _ (qz_lys i hi)) (qz_o14 hts) (had i hi).1 hA, (had i hi).2, fun q hq => ?_⟩
    rw [List.mem_singleton.mp hq]
    exact hor i hi
  · rw [K5]
    exact va_Zref (qz_o0 hts) (qz_o8 hts) eS hA
  · rw [K5]
    exact qz_Tc TSzq (fun j hj => by
      show Value.ref (ad j) = Value.ref (Z j)
      rw [K0 j hj])
  · rw [K6]
    exact va_Zref (qz_o1 hts) (qz_o9 hts) eW hA
  · rw [K6]
    exact TW
  · rw [K9]
    exact va_Zref (qz_o2 hts) (qz_o10 hts) eD hA
  · rw [K9]
    exact TD
  · rw [K10]
    exact va_Zref (qz_o3 hts) (qz_o10 hts) eE hA
  · rw [K10]
    exact TE
  · obtain ⟨cell, r1, r2, r3, r4⟩ := (had 0 (by decide)).2
    exact ⟨cell.cls, r3, va_asg _ _⟩
  · intro i hi
    rw [KKzq i (by omega), K0 i hi]
    exact vk_OFof (had i hi).1 (va_eqv (hsg i hi).2.2 (hzs i (by omega)).1) hA
  · exact fun w hw => va_Nw.of (qz_gNsb hw).2 (hts w (qz_gNs w hw))
  · intro i hi
    rw [KKzq i hi, KV i hi]
    exact (hzs i hi).2
  · exact va_Zof (qz_o4 hts) (qz_o11 hts) (va_eqi (qz_cs hn)) hA
  · rw [K8]
    exact h8
  · exact fun w hw => qz_x0 (qz_gN2b hw) (hts w (qz_xe w (qz_gN2X hw)))
  · intro q hq
    obtain ⟨a, c, cell, k, r1, r2, r3, r4, r5zq, r6, -⟩ := Cond.exactly_spec (args := #[Value.ref b]) (first := s) (o := none) (s := s) (idx := []) (t := .string q.1 q.2.1) (cls := "java/lang/String") (qz_txs hn q hq)
    exact ⟨a, vk_R.of (hts _ (qz_gTx _ (List.mem_map.mpr ⟨q, hq, rfl⟩))) r1⟩
  · intro q hq
    obtain ⟨e1, e2, e3⟩ := qz_gLs q hq
    rw [KKzq q.2.2 e3]
    have h := (hzs q.2.2 e3).1
    unfold qzS at h
    rw [e1, e2] at h
    exact vk_R.of (hts _ (qz_gLx _ (List.mem_map.mpr ⟨q, hq, rfl⟩))) h
  · rw [Kb, KL]
    exact qz_Tc hX2 (fun j hj => by
      show Value.int (xs j) = Value.int (Int32.ofNat (Z (1000 + j)))
      rw [KX])
  · exact vx_Zqof (qz_o6 hts) (qz_o13 hts) (qz_us hn) hA
  · exact vx_Zqof (qz_o7 hts) (qz_o13 hts) (qz_su hn) hA
