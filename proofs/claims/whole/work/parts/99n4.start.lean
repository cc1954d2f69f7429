/-! What holds at the law's entry: the statics by one function, at every warm state; the walk -/
def qzZ (ad : Nat → Nat) (x5zq x6 x7 x8 : Nat) (zs : Nat → Nat × Nat) (i : Nat) : Nat := if i < 45 then ad i else if i = 45 then x5zq else if i = 46 then x6 else if i = 47 then x7 else if i = 48 then x8 else if i < 300 then (zs (i - 100)).1 else (zs (i - 300)).2
theorem qzZ_0 {ad : Nat → Nat} {x5zq x6 x7 x8 : Nat} {zs : Nat → Nat × Nat} {i : Nat} (hi : i < 45) : qzZ ad x5zq x6 x7 x8 zs i = ad i := if_pos hi
theorem qzZ_5 {ad : Nat → Nat} {x5zq x6 x7 x8 : Nat} {zs : Nat → Nat × Nat} : qzZ ad x5zq x6 x7 x8 zs 45 = x5zq := by simp [qzZ]
theorem qzZ_6 {ad : Nat → Nat} {x5zq x6 x7 x8 : Nat} {zs : Nat → Nat × Nat} : qzZ ad x5zq x6 x7 x8 zs 46 = x6 := by simp [qzZ]
theorem qzZ_7 {ad : Nat → Nat} {x5zq x6 x7 x8 : Nat} {zs : Nat → Nat × Nat} : qzZ ad x5zq x6 x7 x8 zs 47 = x7 := by simp [qzZ]
theorem qzZ_8 {ad : Nat → Nat} {x5zq x6 x7 x8 : Nat} {zs : Nat → Nat × Nat} : qzZ ad x5zq x6 x7 x8 zs 48 = x8 := by simp [qzZ]
theorem qzZ_K {ad : Nat → Nat} {x5zq x6 x7 x8 : Nat} {zs : Nat → Nat × Nat} {i : Nat} (hi : i < 71) : qzZ ad x5zq x6 x7 x8 zs (100 + i) = (zs i).1 := by
  have h1 : ¬ 100 + i < 45 := by omega
  have h2 : ¬ 100 + i = 45 := by omega
  have h3 : ¬ 100 + i = 46 := by omega
  have h4 : ¬ 100 + i = 47 := by omega
  have h5 : ¬ 100 + i = 48 := by omega
  have h6 : 100 + i < 300 := by omega
  unfold qzZ
  rw [if_neg h1, if_neg h2, if_neg h3, if_neg h4, if_neg h5, if_pos h6, Nat.add_sub_cancel_left]
theorem qzZ_V {ad : Nat → Nat} {x5zq x6 x7 x8 : Nat} {zs : Nat → Nat × Nat} {i : Nat} : qzZ ad x5zq x6 x7 x8 zs (300 + i) = (zs i).2 := by
  have h1 : ¬ 300 + i < 45 := by omega
  have h2 : ¬ 300 + i = 45 := by omega
  have h3 : ¬ 300 + i = 46 := by omega
  have h4 : ¬ 300 + i = 47 := by omega
  have h5 : ¬ 300 + i = 48 := by omega
  have h6 : ¬ 300 + i < 300 := by omega
  unfold qzZ
  rw [if_neg h1, if_neg h2, if_neg h3, if_neg h4, if_neg h5, if_neg h6, Nat.add_sub_cancel_left]
theorem qz_Tc {ty : FieldType} {t N : Nat} {f g : Nat → Value} {A : Nat → Prop} {U : State} {H : Heap} (h : va_T ty t N f A U H) (hfg : ∀ j : Nat, j < N → f j = g j) : va_T ty t N g A U H := by
  obtain ⟨cell, h1, h2, h3, h4, h5, h6, h7⟩ := h
  exact ⟨cell, h1, h2, h3, h4, h5, fun j hj => by rw [← hfg j hj]; exact h6 j hj, h7⟩
def qzIsN : Cond → Bool
  | .fieldLinkNest .. => true
  | .methodLinkNest .. => true
  | _ => false
theorem qz_gNsN : gNs.all (fun w => qzIsN w && w.onTables) = true := by decide +kernel
theorem qz_nw {w : Cond} {s U : State} (hW : s.WarmedH U.vm) (hb : qzIsN w = true) (h : va_Nw w s) : va_Nw w U := by
  cases w with
  | fieldLinkNest a i b n d z => exact va_Nw.warmF hW h
  | methodLinkNest a i y z => exact va_Nw.warmM hW h
  | _ => exact absurd (show (false : Bool) = true from hb) (by decide)
def qzIsX : Cond → Bool
  | .arrayOver (.array _) => true
  | .arrayOver (.object _) => true
  | .declares _ => true
  | .castable _ _ => true
  | _ => false
theorem qz_xeX : qzXe.all qzIsX = true := by decide +kernel
theorem qz_xw {w : Cond} {s U : State} (hW : s.WarmedH U.vm) (hb : qzIsX w = true) (h : va_Nw w s) : va_Nw w U := by
  cases w with
  | arrayOver ty =>
    cases ty with
    | array t => exact over_moved hW.alike h
    | object C => exact va_AO.moved hW.alike h
    | _ => exact absurd (show (false : Bool) = true from hb) (by decide)
  | declares y => exact va_Nw.warmD hW h
  | castable C T => exact va_Nw.warmC hW h
  | _ => exact absurd (show (false : Bool) = true from hb) (by decide)
theorem qz_x0 {w : Cond} {args : Array Value} {s : State} (hb : qzIsX w = true) (h : w.before args s = true) : va_Nw w s := by
  cases w with
  | arrayOver ty => exact h
  | declares y => exact va_Nw.of rfl h
  | castable C T => exact va_Nw.of rfl h
  | _ => exact absurd (show (false : Bool) = true from hb) (by decide)
theorem qz_gN2X {w : Cond} (hw : w ∈ gN2) : w ∈ qzXe := of_decide_eq_true (List.all_eq_true.mp qz_gN2 w hw)
theorem qz_gN2b {w : Cond} (hw : w ∈ gN2) : qzIsX w = true := List.all_eq_true.mp qz_xeX w (qz_gN2X hw)
theorem qz_gNsb {w : Cond} (hw : w ∈ gNs) : qzIsN w = true ∧ w.onTables = true := by
  have h := List.all_eq_true.mp qz_gNsN w hw
  rw [Bool.and_eq_true] at h
  exact h
/-- what holds of the statics stays so at every warm state -/
theorem qz_warm {Z : Nat → Nat} {B : Nat} {H0 : Heap} {s U : State} (hW : s.WarmedH U.vm) (h : gSt3 Z B H0 s) : gSt3 Z B H0 U := by
  obtain ⟨⟨⟨a1, a2, a3, a4, a5, a6, a7, ⟨cS, a8, -⟩, a9, a10, a11, a12, a13⟩, b1, b2, b3, b4, b5⟩, c1⟩ := h
  have hv := hW.alike
  exact ⟨⟨⟨va_En.moved hv a1, va_Z.moved hv a2, va_T.moved hv a3, va_Z.moved hv a4, va_T.moved hv a5, va_Z.moved hv a6, va_T.moved hv a7, ⟨cS, by rw [hv.findClass]; exact a8, va_asg _ _⟩, fun i hi => va_OF.moved hv (a9 i hi), fun w hw => qz_nw hW (qz_gNsb hw).1 (a10 w hw), fun i hi => ⟨va_O.moved hv (a11 i hi).1, va_OF.moved hv (a11 i hi).2.1, va_OF.moved hv (a11 i hi).2.2.1, va_T.moved hv (a11 i hi).2.2.2⟩, va_Z.moved hv a12, va_Z.moved hv a13⟩, fun w hw => qz_xw hW (qz_gN2b hw) (b1 w hw), fun q hq => by
    obtain ⟨a, ha⟩ := b2 q hq
    exact ⟨a, vk_R.warm hW ha⟩, vk_R.warm hW b3, vx_Zq.moved hv b4, vx_Zq.moved hv b5⟩, fun q hq => va_Nc.moved hv (c1 q hq)⟩
/-- the same place, or another sign -/
theorem qz_inj {ad : Nat → Nat} {A : Nat → Prop} {s : State} (hor : ∀ i : Nat, i < 45 → va_OF "java/lang/Enum" "ordinal" "I" (.int (gOrd.getD i 0)) (ad i) A s s.heap) (i j : Nat) (hi : i < 45) (hj : j < 45) (e : ad i = ad j) : i = j := by
  obtain ⟨cf, k, fi, f, cell, f1, f2, f3, f4, f5, f6zq⟩ := hor i hi
  obtain ⟨cg, kg, gi, g, cellg, g1, g2, g3zq, g4, g5, g6⟩ := hor j hj
  rw [← e] at g3zq
  have e1zq : f = g := by
    have h := congrArg (fun z : ClassId × Class × Nat × Field => z.2.2.2) (Option.some.inj (f1.symm.trans g1))
    exact h
  have e2zq : cell = cellg := Option.some.inj (f3.symm.trans g3zq)
  rw [← e1zq, ← e2zq] at g5
  have e3zq := Option.some.inj (f5.symm.trans g5)
  have e4zq : gOrd.getD i 0 = gOrd.getD j 0 := Value.int.inj e3zq
  rw [gOrd_nI i hi, gOrd_nI j hj] at e4zq
  have e5zq := congrArg Int32.toNatClampNeg e4zq
  rw [nI_clamp (by omega), nI_clamp (by omega)] at e5zq
  exact e5zq
/-- what the Statement gives of the statics, by one function -/
theorem qz_start {args : Array Value} {s : State} (hts : ∀ w ∈ lw_tbl, w.before args s = true) (hgv : (Cond.and given_1 narrow_1).before args s = true) : ∃ Z : Nat → Nat, (∀ a b : Nat, a < 45 → b < 45 → Z a = Z b → a = b) ∧ gSt3 Z s.heap.size s.heap s := by
  have hn : narrow_1.before args s = true := qz_r hgv
  have hA : ∀ a : Nat, a < s.heap.size → ¬ gA s.heap.size a := fun a h1 h2 => Nat.not_le.mpr h1 h2
  have hsg := qz_sgs hn
  have hst := qz_strs hn
  have q0 : ∀ i : Nat, ∃ z : Nat × Nat, i < 71 → (qzS i).eval args s none [] s = some (.ref z.1) ∧ va_O "java/lang/String" z.1 (gA s.heap.size) s s.heap ∧ va_OF "java/lang/String" "coder" "B" (.int 0) z.1 (gA s.heap.size) s s.heap ∧ va_OF "java/lang/String" "value" "[B" (.ref z.2) z.1 (gA s.heap.size) s s.heap ∧ va_T .byte z.2 (sLn i) (fun j => .int (sBy i j)) (gA s.heap.size) s s.heap := by
    intro i
    by_cases hi : i < 71
    · obtain ⟨a, v, e1zq, e2zq, e3zq, e4zq, e5zq⟩ := qz_of (hst i hi) (Nat.lt_trans (qz_lt31 i hi) (by decide)) hA
      rw [qz_len i hi] at e5zq
      exact ⟨(a, v), fun _ => ⟨e1zq, e2zq, e3zq, e4zq, e5zq⟩⟩
    · exact ⟨(0, 0), fun h => absurd h hi⟩
  obtain ⟨zs, hzs⟩ := Classical.axiomOfChoice q0
  have q1 : ∀ i : Nat, ∃ t : Nat, i < 45 → (qzT i).eval args s none [] s = some (.ref t) ∧ va_O "TideLots$Sign" t (gA s.heap.size) s s.heap := by
    intro i
    by_cases hi : i < 45
    · obtain ⟨a, c, cell, k, r1, r2, r3, r4, r5zq, r6, -⟩ := Cond.exactly_spec (args := args) (first := s) (o := none) (s := s) (idx := []) (t := qzT i) (cls := "TideLots$Sign") (hsg i hi).1
      exact ⟨a, fun _ => ⟨r1, cell, r3, r5zq, by rw [r6]; exact r2, hA a (Array.getElem?_eq_some_iff.mp r3).1⟩⟩
    · exact ⟨0, fun h => absurd h hi⟩
  obtain ⟨ad, had⟩ := Classical.axiomOfChoice q1
  have hor : ∀ i : Nat, i < 45 → va_OF "java/lang/Enum" "ordinal" "I" (.int (gOrd.getD i 0)) (ad i) (gA s.heap.size) s s.heap := fun i hi => vk_OFof (had i hi).1 (va_eqt (hsg i hi).2.1) hA
  have hinj := qz_inj hor
  obtain ⟨tS, eS, TSzq⟩ := va_Tof (args := args) (s := s) (tm := .static "TideLots" "SIGNS" "[LTideLots$Sign;") (ty := .object "TideLots$Sign") (N := 45) (f := fun i => .ref (ad i)) (A := gA s.heap.size) (by decide) (qz_pe_a hn) (va_eqt (qz_pe_n hn)) (fun j hj => va_eqv (qz_pes hn j hj) (had j hj).1) hA
  obtain ⟨tW, eW, TW⟩ := va_Tof (args := args) (s := s) (tm := .static "TideLots$1" "$SwitchMap$TideLots$Sign" "[I") (ty := .int) (N := 45) (f := fun i => .int (gSw i)) (A := gA s.heap.size) (by decide) (qz_pw_a hn) (va_eqt (qz_pw_n hn)) (fun j hj => va_eqt (qz_pws hn j hj)) hA
  obtain ⟨tD, eD, TD⟩ := va_Tof (args := args) (s := s) (tm := .static "TideLotsModel" "WORDS" "[Ljava/lang/String;") (ty := .object "java/lang/String") (N := 25) (f := fun i => .ref (zs (45 + i)).1) (A := gA s.heap.size) (by decide) (qz_pd_a hn) (va_eqt (qz_pd_n hn)) (fun j hj => va_eqv (qz_pds hn j hj) (hzs (45 + j) (by omega)).1) hA
  obtain ⟨z8, h8⟩ : ∃ z8 : Nat, va_Z "jdk/internal/util/Preconditions" "SIOOBE_FORMATTER" "Ljava/util/function/BiFunction;" (va_rf (zopt z8)) (gA s.heap.size) s s.heap := by
    rcases va_Zqof (qz_o4 hts) (qz_o11 hts) (qz_si hn) hA with h | ⟨t, h⟩
    · exact ⟨0, h⟩
    · refine ⟨t + 1, ?_⟩
      rw [show zopt (t + 1) = some t by simp [zopt]]
      exact h
  have K0 : ∀ i : Nat, i < 45 → qzZ ad tS tW tD z8 zs i = ad i := fun i hi => qzZ_0 hi
  have KKzq : ∀ i : Nat, i < 71 → qzZ ad tS tW tD z8 zs (100 + i) = (zs i).1 := fun i hi => qzZ_K hi
  have KV : ∀ i : Nat, qzZ ad tS tW tD z8 zs (300 + i) = (zs i).2 := fun i => qzZ_V
  refine ⟨qzZ ad tS tW tD z8 zs, fun a b ha hb e => hinj a b ha hb (by rw [← K0 a ha, ← K0 b hb]; exact e), ⟨⟨⟨?_, ?_, ?_, ?_, ?_, ?_, ?_, ?_, ?_, ?_, ?_, ?_, ?_⟩, ?_, ?_, ?_, ?_, ?_⟩, ?_⟩⟩
  · refine ⟨fun i hi => ?_, fun i j hi hj e => hinj i j hi hj (by rw [← K0 i hi, ← K0 j hj]; exact e)⟩
    have hi : i < 45 := hi
    rw [K0 i hi]
    refine ⟨va_Zref (hts _ (qz_lys i hi)) (qz_o13 hts) (had i hi).1 hA, (had i hi).2, fun q hq => ?_⟩
    rw [List.mem_singleton.mp hq]
    exact hor i hi
  · rw [qzZ_5]
    exact va_Zref (qz_o0 hts) (qz_o7 hts) eS hA
  · rw [qzZ_5]
    exact qz_Tc TSzq (fun j hj => by
      show Value.ref (ad j) = Value.ref (qzZ ad tS tW tD z8 zs j)
      rw [K0 j hj])
  · rw [qzZ_6]
    exact va_Zref (qz_o1 hts) (qz_o8 hts) eW hA
  · rw [qzZ_6]
    exact TW
  · rw [qzZ_7]
    exact va_Zref (qz_o2 hts) (qz_o9 hts) eD hA
  · rw [qzZ_7]
    exact qz_Tc TD (fun j hj => by
      show Value.ref (zs (45 + j)).1 = Value.ref (qzZ ad tS tW tD z8 zs (100 + (45 + j)))
      rw [KKzq (45 + j) (by omega)])
  · obtain ⟨cell, r1, r2, r3, r4⟩ := (had 0 (by decide)).2
    exact ⟨cell.cls, r3, va_asg _ _⟩
  · intro i hi
    rw [KKzq i (by omega), K0 i hi]
    exact vk_OFof (had i hi).1 (va_eqv (hsg i hi).2.2 (hzs i (by omega)).1) hA
  · exact fun w hw => va_Nw.of (qz_gNsb hw).2 (hts w (qz_gNs w hw))
  · intro i hi
    rw [KKzq i hi, KV i]
    exact (hzs i hi).2
  · exact va_Zof (qz_o3 hts) (qz_o10 hts) (va_eqi (qz_cs hn)) hA
  · rw [qzZ_8]
    exact h8
  · exact fun w hw => qz_x0 (qz_gN2b hw) (hts w (qz_xe w (qz_gN2X hw)))
  · intro q hq
    obtain ⟨a, c, cell, k, r1, r2, r3, r4, r5zq, r6, -⟩ := Cond.exactly_spec (args := args) (first := s) (o := none) (s := s) (idx := []) (t := .string q.1 q.2.1) (cls := "java/lang/String") (qz_txs hn q hq)
    exact ⟨a, vk_R.of (hts _ (qz_gTx _ (List.mem_map.mpr ⟨q, hq, rfl⟩))) r1⟩
  · rw [KKzq 70 (by decide)]
    exact vk_R.of (qz_o14 hts) (hzs 70 (by decide)).1
  · exact vx_Zqof (qz_o5 hts) (qz_o12 hts) (qz_us hn) hA
  · exact vx_Zqof (qz_o6 hts) (qz_o12 hts) (qz_su hn) hA
  · exact fun q hq => va_Nc.of (qz_ncs hn q hq)
/-- from the entry, for every script of at most 3072 ints, the law comes to its end with true -/
theorem whole_start {p : Program} {e : Env} {s : State} {m : MethodId} {below : List Frame} {meth : Method} {c : Code} (l : Launch) (hflags : l.flags = flags0) {b L : Nat} {xs : Nat → Int32} (hL : L ≤ 3072) (C0zq : lw_At p s m meth c b L xs) : W p l e room_1 s m #[Value.ref b] below meth c s.heap [] 0 0 (lw_Z below #[Value.ref b] s) (entryFrame m ([Value.ref b] : List Value).toArray 9) := by
  have hts : ∀ w ∈ lw_tbl, w.before #[Value.ref b] s = true := C0zq.2.2.2.2.2.1
  have hgv : (Cond.and given_1 narrow_1).before #[Value.ref b] s = true := C0zq.2.2.2.2.2.2.2.2.2
  have hlx : l.stackTraces = false := by
    unfold Launch.stackTraces
    rw [hflags]
    first | decide +kernel | rfl
  obtain ⟨D, cy, hKzq⟩ := start_K (fun w hw => hts w (wsLL_in w hw)) (fun w hw => hts w (qz_arr w hw))
  obtain ⟨Z, hZ, hSzq⟩ := qz_start hts hgv
  exact law_W l hlx hL C0zq hKzq hZ (fun U hW => qz_warm hW hSzq)
