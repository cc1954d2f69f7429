/-! The law's rows: calls of its helpers, the script, the end of a case -/
section GLAW
variable {p : Program} {l : Launch} {e : Env} {R : Room} {s : State} {m : MethodId} {args : Array Value} {below : List Frame} {meth : Method} {c : Code} {D : va_G} {cy : Nat → ClassId} {B : Nat} {H0 : Heap} {Z : Nat → Nat} {Fs : State → Prop} {own : String} {cc : ByteArray} {ws : List Cond} {nL k n pc : Nat} {Q : State → Prop} {lv lv' : List (Nat × gV)} {st stk : List gV} {M M1 : gMem}
variable {y : MethodName} {bytes : ByteArray} {maxL mc ms np index : Nat} {ret : Option FieldType} {hh : List (Nat × Nat × Nat × Nat)} {ws' : List Cond} {rm : Room} {As : List gV} {v : Option gV}
theorem g_runN {st0 : List gV} {a : Array Value} (hr : ∀ (H : Heap) (locs : List Loc) (ls : Array Slot), gW D cy B H0 M H → va_S (gA B) s.heap H locs → lv_has ls nL (lv.map gq) → va_Run p l e R s m args below meth c H locs k n mc ms (F0 m pc ls (st0.map gv)) (st.map gv) (gQN D cy B H0 v M1 a) (gA B))
    (kk : ∀ N, mN M1 ≤ N → gGo p l e R s m args below meth c D cy B H0 nL (k + mc) (n + ms) Q (pc + 3) (lv) (v.toList ++ st) (sN M1 N)) : gGo p l e R s m args below meth c D cy B H0 nL k n Q (pc) (lv) (st0) (M) := fun H locs ls hW hS hl => by
  intro T hT X
  obtain ⟨v', st₀, t, T', L, h0, X', hL, e1, e2, ⟨N, hN, hv, hw, hz⟩, hst⟩ := hr H locs ls hW hS hl T hT X
  cases hv
  rw [h0] at hz
  have hS' : va_S (gA B) s.heap T'.heap (locs ++ L) := ⟨Nat.le_trans hS.1 (by rw [e1]; exact hz), fun q h1 h2 => by
    have hq : q < B := Nat.not_le.mp h2
    rw [e1, hw.2.2.1 q hq, ← hS.2.1 q h1 h2, hW.2.2.1 q hq], fun q hq => by
      rcases List.mem_append.mp hq with h | h
      · exact hS.2.2 q h
      · exact hL q h⟩
  obtain ⟨t2, a1, b1⟩ := kk N hN T'.heap (locs ++ L) ls (by rw [e1]; exact hw) hS' hl T' rfl X'
  refine ⟨t2, hst t2 ?_, b1⟩
  have e3 : ((v.toList ++ st).map gv) = (v.map gv).toList ++ st.map gv := by cases v <;> rfl
  rw [e3] at a1
  exact a1
theorem g_callSW (X : gX p s m args meth c D cy B Fs own cc ws nL) (hM : Met l y ws' rm (va_Pc (As.map gv) (gPre D cy B H0 Fs M)) (gQ D cy B H0 v M1) mc ms (gA B)) (cw : vx_CSW R s args own index y bytes maxL ret hh ws' rm mc ms np) (hst : stk = As.reverse ++ st) (hn : As.length = np) (hroom : (st.map gw).sum ≤ 8) (hd : decode cc pc = .ok (.invokestatic index, 3)) (hf : k + mc ≤ R.cells ∧ n + ms ≤ R.slots)
    (kk : gGo p l e R s m args below meth c D cy B H0 nL (k + mc) (n + ms) Q (pc + 3) (lv) (v.toList ++ st) (M1)) : gGo p l e R s m args below meth c D cy B H0 nL k n Q (pc) (lv) (stk) (M) := by
  subst hst
  refine g_run (mc := mc) (ms := ms) (v := v) (a := (As.map gv).toArray) (fun H locs ls hW hS hl => ?_) kk
  refine vx_runSW (As := As.map gv) (rest := st.map gv) (gX_fix X) hM cw ⟨gPre_blind, fun U hU hw => gPre_at X hW hU hw⟩ rfl (by rw [List.length_map]; exact hn) hl.1 ?_ (groom hroom) hd hf
  show ((As.reverse ++ st).map gv) = _
  rw [List.map_append, List.map_reverse]
theorem g_callSQ (X : gX p s m args meth c D cy B Fs own cc ws nL) (hM : Met l y ws' rm (va_Pc (As.map gv) (gPre D cy B H0 Fs M)) (gQN D cy B H0 v M1) mc ms (gA B)) (cw : vx_CSW R s args own index y bytes maxL ret hh ws' rm mc ms np) (hst : stk = As.reverse ++ st) (hn : As.length = np) (hroom : (st.map gw).sum ≤ 8) (hd : decode cc pc = .ok (.invokestatic index, 3)) (hf : k + mc ≤ R.cells ∧ n + ms ≤ R.slots)
    (kk : ∀ N, mN M1 ≤ N → gGo p l e R s m args below meth c D cy B H0 nL (k + mc) (n + ms) Q (pc + 3) (lv) (v.toList ++ st) (sN M1 N)) : gGo p l e R s m args below meth c D cy B H0 nL k n Q (pc) (lv) (stk) (M) := by
  subst hst
  refine g_runN (mc := mc) (ms := ms) (v := v) (a := (As.map gv).toArray) (fun H locs ls hW hS hl => ?_) kk
  refine vx_runSW (As := As.map gv) (rest := st.map gv) (gX_fix X) hM cw ⟨gPre_blind, fun U hU hw => gPre_at X hW hU hw⟩ rfl (by rw [List.length_map]; exact hn) hl.1 ?_ (groom hroom) hd hf
  show ((As.reverse ++ st).map gv) = _
  rw [List.map_append, List.map_reverse]
/-- the script: it lies below B -/
theorem g_scr {b L : Nat} {xs : Nat → Int32} {i : Int32} (X : gX p s m args meth c D cy B Fs own cc ws nL) (hX : va_X b L xs s H0) (hb : b < B) (hd : decode cc pc = .ok (.iaload, 1)) (hin : vp_in i L) (kk : gGo p l e R s m args below meth c D cy B H0 nL k n Q (pc + 1) (lv) (vI (xs i.toNatClampNeg) :: st) (M)) : gGo p l e R s m args below meth c D cy B H0 nL k n Q (pc) (lv) (vI i :: vR (some b) :: st) (M) := fun H locs ls hW hS hl => by
  obtain ⟨scr, h1, h2, h3, h4, h5⟩ := hX
  have hlt : i.toNatClampNeg < L := Nat.not_le.mp fun q => hin (Or.inr q)
  exact W.iald (v := .int (xs i.toNatClampNeg)) X.1 X.2.1 (by rw [hW.2.2.1 b hb]; exact h1) h2 h3 (by rw [h4]; exact hin) (h5 _ hlt) rfl rfl hd (kk H locs ls hW hS hl)
theorem g_scl {b L : Nat} {xs : Nat → Int32} (X : gX p s m args meth c D cy B Fs own cc ws nL) (hX : va_X b L xs s H0) (hb : b < B) (hd : decode cc pc = .ok (.arraylength, 1)) (kk : gGo p l e R s m args below meth c D cy B H0 nL k n Q (pc + 1) (lv) (vI (Int32.ofNat L) :: st) (M)) : gGo p l e R s m args below meth c D cy B H0 nL k n Q (pc) (lv) (vR (some b) :: st) (M) := fun H locs ls hW hS hl => by
  obtain ⟨scr, h1, h2, h3, h4, h5⟩ := hX
  exact W.alen (n := Int32.ofNat L) X.1 X.2.1 (by rw [hW.2.2.1 b hb]; exact h1) h2 (by rw [h4] <;> rfl) rfl rfl hd (kk H locs ls hW hS hl)
/-- a word of the script at i + j, as the law loads it -/
theorem law_arg {b L i j : Nat} {xs : Nat → Int32} {z : Int} {q : Fin 4} (X : gX p s m args meth c D cy B Fs own cc ws nL) (hX : va_X b L xs s H0) (hb : b < B) (hL : L ≤ 3072) (hi : i + j < L) (hq : (q : Nat) = 0) (hz : Int32.ofInt z = nI j) (h0 : lv.lookup 0 = some (vR (some b))) (h4 : lv.lookup 4 = some (vI (nI i)))
    (d0 : decode cc pc = .ok (.aload_n q, 1)) (d1 : decode cc (pc + 1) = .ok (.iload 4, 2)) (d2 : decode cc (pc + 1 + 2) = .ok (.iconst z, 1)) (d3 : decode cc (pc + 1 + 2 + 1) = .ok (.iadd, 1)) (d4 : decode cc (pc + 1 + 2 + 1 + 1) = .ok (.iaload, 1))
    (kk : gGo p l e R s m args below meth c D cy B H0 nL k n Q (pc + 6) (lv) (vI (xs (i + j)) :: st) (M)) : gGo p l e R s m args below meth c D cy B H0 nL k n Q (pc) (lv) (st) (M) := by
  refine g_aload_n X d0 hq h0 ?_
  refine g_iload X d1 h4 ?_
  refine g_iconst (v := nI j) X d2 hz ?_
  refine g_iadd X d3 ?_
  have e : nI i + nI j = nI (i + j) := nI_add i j
  rw [e]
  refine g_scr X hX hb d4 ?_ ?_
  · exact (inbN (by omega)).mpr hi
  · rw [nI_clamp (by omega)]
    exact kk
end GLAW
/-! ### a case's end, and the class's call -/
theorem gMono {w : List Cond} (h : GoodIn wsL_law w) : GoodIn wsLL w := goodIn_mono (fun _ h => List.mem_append_left _ h) h
abbrev gXL (p : Program) (s : State) (m : MethodId) (b : Nat) (meth : Method) (c : Code) (D : va_G) (cy : Nat → ClassId) (B : Nat) (Z : Nat → Nat) (H0 : Heap) : Prop := gX p s m #[Value.ref b] meth c D cy B (gSt3 Z B H0) RL cL_law wsLL 9
abbrev gGL (p : Program) (l : Launch) (e : Env) (s : State) (m : MethodId) (b : Nat) (below : List Frame) (meth : Method) (c : Code) (D : va_G) (cy : Nat → ClassId) (B : Nat) (H0 : Heap) (k n : Nat) (Q : State → Prop) (pc : Nat) (lv : List (Nat × gV)) (st : List gV) (M : gMem) : Prop := gGo p l e room_1 s m #[Value.ref b] below meth c D cy B H0 9 k n Q pc lv st M
abbrev lLv (b x mm i : Nat) : List (Nat × gV) := [(0, vR (some b)), (1, vR (some x)), (2, vR (some mm)), (3, vR (some (mm + 59))), (4, vI (nI i))]
def lTl (q : Nat) : Prop := decode cL_law q = .ok (.istore 6, 2) ∧ decode cL_law (q + 2) = .ok (.aload_n 2, 1) ∧ decode cL_law (q + 3) = .ok (.invokevirtual 77, 3) ∧ decode cL_law (q + 6) = .ok (.iload 5, 2) ∧ decode cL_law (q + 8) = .ok (.if_icmp .eq 5, 3) ∧ decode cL_law (q + 13) = .ok (.iload 5, 2) ∧ decode cL_law (q + 15) = .ok (.ifCond .ne 15, 3) ∧ decode cL_law (q + 18) = .ok (.aload_n 3, 1) ∧ decode cL_law (q + 19) = .ok (.iconst 0, 1) ∧ decode cL_law (q + 20) = .ok (.laload, 1) ∧ decode cL_law (q + 21) = .ok (.iload 6, 2) ∧ decode cL_law (q + 23) = .ok (.i2l, 1) ∧ decode cL_law (q + 24) = .ok (.lcmp, 1) ∧ decode cL_law (q + 25) = .ok (.ifCond .eq 5, 3) ∧ ∃ off : Int, decode cL_law (q + 30) = .ok (.goto off, 3) ∧ ((q + 30 : Nat) : Int) + off = ((1290 : Nat) : Int)
section GLAW2
variable {p : Program} {l : Launch} {e : Env} {s : State} {m : MethodId} {below : List Frame} {meth : Method} {c : Code} {D : va_G} {cy : Nat → ClassId} {B : Nat} {H0 : Heap} {Z : Nat → Nat} {k n pc : Nat} {Q : State → Prop} {lv lv' : List (Nat × gV)} {st stk : List gV} {M M1 : gMem} {b x mm i j q : Nat}
theorem law_cmp0 {v : Int64} : lg_cmp v v = 0 := by simp [lg_cmp]
set_option maxRecDepth 20000 in
theorem law_tail {cd w : Int32} (X : gXL p s m b meth c D cy B Z H0) (hq : lTl q) (hT : mT M mm = 13) (hth : mI M mm 0 = cd) (hTo : mT M (mm + 59) = 21) (hLo : mL M (mm + 59) = 1) (hJ : cd = 0 → mJ M (mm + 59) 0 = w.toInt64) (hf : k ≤ 601024 ∧ n ≤ 7293034) (kk : gGL p l e s m b below meth c D cy B H0 k n Q 1290 (lLv b x mm j) [] M) : gGL p l e s m b below meth c D cy B H0 k n Q q ((5, vI cd) :: lLv b x mm j) [vI w] M := by
  obtain ⟨d0, d1, d2, d3, d4, d5, d6, d7, d8, d9, d10, d11, d12, d13, off, d14, h14⟩ := hq
  have X1 := gX_w (gX_w3 X)
  have end1 : gGL p l e s m b below meth c D cy B H0 k n Q (q + 30) ((6, vI w) :: (5, vI cd) :: lLv b x mm j) [] M := g_goto (tgt := 1290) X d14 h14 (g_sub (lvsub_of _ _ [2, 3, 4, 5, 6] rfl) kk)
  refine g_istore (lv' := (6, vI w) :: (5, vI cd) :: lLv b x mm j) X d0 (by decide) rfl ?_
  refine g_aload_n (x := some mm) X d1 rfl rfl ?_
  refine g_callV (ci := 12) (b := mm) (As := []) (st := []) (v := some (vI cd)) (M1 := M) X1 (m_X14_thrown l (by unfold f_X14_thrown b_X14_thrown_0; rw [ck_t hT, hth])) (cwV 0 X.2.2.1 (gMono gL_law_X14_thrown) rfl rfl rfl (by decide +kernel) ⟨Nat.le_of_ble_eq_true rfl, Nat.le_of_ble_eq_true rfl⟩) rfl rfl rfl hT (by decide) rfl (Nat.le_of_ble_eq_true rfl) d2 ⟨hf.1, hf.2⟩ ?_
  refine g_iload (x := cd) X d3 rfl ?_
  refine g_icmp_eq (tgt := q + 13) X d4 (by omega) (fun _ => ?_) (fun h => absurd rfl h)
  refine g_iload (x := cd) X d5 rfl ?_
  refine g_if_ne (tgt := q + 30) X d6 (by omega) (fun _ => end1) (fun h0 => ?_)
  refine g_aload_n (x := some (mm + 59)) X d7 rfl rfl ?_
  refine g_iconst (v := (0 : Int32)) X d8 (by decide) ?_
  refine g_lald X d9 rfl hTo (by rw [hLo]; exact (by decide : inb (0 : Int32) 1)) ?_
  refine g_iload (x := w) X d10 rfl ?_
  refine g_i2l X d11 ?_
  refine g_lcmp X d12 ?_
  refine g_if_eq (tgt := q + 30) X d13 (by omega) (fun _ => end1) (fun h => absurd ?_ h)
  rw [show (0 : Int32).toNatClampNeg = 0 from rfl, hJ h0]
  exact law_cmp0
variable {F : gMem → Option ((Nat ⊕ Int32) × gMem)} {G : gMem → Option (Int32 × gMem)} {c1 c2 mc ms np index maxL : Nat} {y : MethodName} {bytes : ByteArray} {ret : Option FieldType} {hh : List (Nat × Nat × Nat × Nat)} {ws' : List Cond} {rm : Room} {As : List gV}
/-- what the law knows once the class has answered: code cd, memory M' -/
def lAns (G : gMem → Option (Int32 × gMem)) (Z : Nat → Nat) (x mm i : Nat) (M : gMem) (cd : Int32) (M' : gMem) : Prop :=
  (mT M' = mT M ∧ mL M' = mL M) ∧ ∃ v M2, G M' = some (v, M2) ∧ mI M2 mm 0 = cd ∧ LPo Z x mm i (mN M') M2 ∧ (cd = 0 → mJ M2 (mm + 59) 0 = v.toInt64)
theorem law_cls (hK : KQ F G c1 c2 Z x mm i M) (hm : mm + 60 ≤ mN M) (hO : PW (QR (mT M) (mL M)) (F M)) (hG : ∀ M v M2, G M = some (v, M2) → ∀ a, a < mN M → mJ M2 a = mJ M a) (X : gXL p s m b meth c D cy B Z H0)
    (m0 : ∀ v M1, F M = some (.inr v, M1) → mT M1 (mm + 59) = 21 → inb (0 : Int32) (mL M1 (mm + 59)) → Met l y ws' rm (va_Pc (As.map gv) (gPre D cy B H0 (gSt3 Z B H0) M)) (gQ D cy B H0 (some (vI 0)) (wJ M1 (mm + 59) (0 : Int32).toNatClampNeg (Int32.toInt64 v))) mc ms (gA B))
    (m1 : ∀ M1, F M = some (.inl c1, M1) → Met l y ws' rm (va_Pc (As.map gv) (gPre D cy B H0 (gSt3 Z B H0) M)) (gQN D cy B H0 (some (vI (1 : Int32))) M1) mc ms (gA B))
    (m2 : c2 < 9 → ∀ M1, F M = some (.inl c2, M1) → Met l y ws' rm (va_Pc (As.map gv) (gPre D cy B H0 (gSt3 Z B H0) M)) (gQN D cy B H0 (some (vI (2 : Int32))) M1) mc ms (gA B))
    (cw : vx_CSW room_1 s #[Value.ref b] RL index y bytes maxL ret hh ws' rm mc ms np) (hst : stk = As.reverse) (hn : As.length = np) (hd : decode cL_law pc = .ok (.invokestatic index, 3)) (hd2 : decode cL_law (pc + 3) = .ok (.istore 5, 2)) (hf : k + mc ≤ 601024 ∧ n + ms ≤ 7293034)
    (kk : ∀ cd M', lAns G Z x mm i M cd M' → gGL p l e s m b below meth c D cy B H0 (k + mc) (n + ms) Q (pc + 5) ((5, vI cd) :: lLv b x mm j) [] M') : gGL p l e s m b below meth c D cy B H0 k n Q pc (lLv b x mm j) stk M := by
  obtain ⟨r, M1, f1, n1, ⟨t1, l1⟩, hh⟩ := hK
  have hTL := hO _ f1
  have st0 : ∀ (cd : Int32) (M' : gMem), lAns G Z x mm i M cd M' → gGL p l e s m b below meth c D cy B H0 (k + mc) (n + ms) Q (pc + 3) (lLv b x mm j) ((some (vI cd)).toList ++ []) M' := fun cd M' h => g_istore (lv' := (5, vI cd) :: lLv b x mm j) X hd2 (by decide) rfl (kk cd M' h)
  rcases hh with ⟨v, rfl, hg⟩ | ⟨rfl, hg⟩ | ⟨hc, rfl, hg⟩
  · refine g_callSW (v := some (vI 0)) (st := []) X (m0 v M1 f1 t1 (by rw [l1]; decide)) cw (by rw [hst, List.append_nil]) hn (Nat.zero_le _) hd hf (st0 0 _ ⟨hTL, ?_⟩)
    obtain ⟨M2, g1, g2, g3⟩ := hg (mJ (wJ M1 (mm + 59) (0 : Int32).toNatClampNeg (Int32.toInt64 v))) (mN M1) (by omega)
    refine ⟨v, M2, g1, g2, g3, fun _ => ?_⟩
    rw [hG _ _ _ g1 (mm + 59) (by show mm + 59 < mN M1; omega)]
    show up2 (mJ M1) (mm + 59) 0 (Int32.toInt64 v) (mm + 59) 0 = _
    simp [up2]
  · refine g_callSQ (v := some (vI 1)) (st := []) X (m1 M1 f1) cw (by rw [hst, List.append_nil]) hn (Nat.zero_le _) hd hf (fun N hN => st0 1 _ ⟨hTL, ?_⟩)
    obtain ⟨v, M2, g1, g2, g3⟩ := hg (mJ M1) N (by omega)
    exact ⟨v, M2, g1, g2, g3, fun h => absurd h (by decide)⟩
  · refine g_callSQ (v := some (vI 2)) (st := []) X (m2 hc M1 f1) cw (by rw [hst, List.append_nil]) hn (Nat.zero_le _) hd hf (fun N hN => st0 2 _ ⟨hTL, ?_⟩)
    obtain ⟨v, M2, g1, g2, g3⟩ := hg (mJ M1) N (by omega)
    exact ⟨v, M2, g1, g2, g3, fun h => absurd h (by decide)⟩
end GLAW2
