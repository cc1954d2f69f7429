/-! ### mean in the law -/
theorem T_mean {Z : Nat → Nat} {b m o o' t n kb : Nat} {T : Nat → Nat} {M : gMem} (S : STv Z b m o o' t n kb T M) : ∃ F a, (mT M b = 10 ∧ mR M b 1 = some o ∧ mT M o = 7 ∧ mI M o 3 = nI F ∧ f_X7_allStores M o = some (a, M)) ∧ (mT (wI M m 0 0) m = 13 ∧ mR (wI M m 0 0) m 11 = some t ∧ mT (wI M m 0 0) t = 12 ∧ mI (wI M m 0 0) t 4 = nI F ∧ mR (wI M m 0 0) m 13 = some (m + 24) ∧ mT (wI M m 0 0) (m + 24) = 11 ∧ mR (wI M m 0 0) (m + 24) 6 = some (m + 24 + 5) ∧ f_X12_sum (wI M m 0 0) (m + 24) (some (m + 24 + 5)) = some (a, wI M m 0 0)) ∧ STv Z b m o o' t n kb T (wI M m 0 0) := by
  obtain ⟨c1, c2, LCo, c3, cA⟩ := STv_c S
  obtain ⟨e1, e2, e3, LA, eS, eI, e4, e5, e6⟩ := STv_m 0 S
  obtain ⟨pg, len, F, G, np, nO, ⟨-, -, W, D, TRr, R, V⟩, hG, hF, g2, g3, x0, x4, t13⟩ := STv_w S
  have k6 := s7_allStores (M := M) LCo W.2.2.1 hF
  rw [cA] at k6
  have k7 := r_sum (j := 5) (st := cutF 17 (m + 24) M) LA (by omega) (by omega)
  rw [eS, RS_sto hF R] at k7
  refine ⟨F, _, ⟨c1, c2, c3, ?_, k6⟩, ⟨e1, e2, LA.1.2.2.2.2, x4, e3, LA.1.1, (LA.2.2.1 5 (by omega) (by omega)).2.2, k7⟩, STv_0 S⟩
  have h := W.2.2.1
  rw [cutF_e (by omega)] at h
  exact h
section GLAW5
variable {p : Program} {l : Launch} {e : Env} {R : Room} {s : State} {m : MethodId} {args : Array Value} {below : List Frame} {meth : Method} {c : Code} {D : va_G} {cy : Nat → ClassId} {B : Nat} {H0 : Heap} {Z : Nat → Nat} {Fs : State → Prop} {own : String} {cc : ByteArray} {ws : List Cond} {nL k n pc : Nat} {Q : State → Prop} {lv lv' : List (Nat × gV)} {st stk : List gV} {M M1 : gMem} {d0 : Drawn}
variable {y : MethodName} {bytes : ByteArray} {maxL mc ms np index : Nat} {ret : Option FieldType} {ws' : List Cond} {rm : Room} {As : List gV} {r : Option Nat} {b ci : Nat} {P : UInt64 → Prop}
theorem g_callVD {C : vw_C} (hd0 : s.drawn.sameBut d0 lw_cs) (X : gX p (s.setDrawn d0) m args meth c D cy B Fs own cc ws nL) (hM : MetD lw_cs l y ws' rm (va_Pc (Value.ref b :: As.map gv) (gPre D cy B H0 Fs M)) (gQd D cy B H0 P M1) mc ms (gA B)) (cw : CallW R (s.setDrawn d0) args own C.1 index y bytes maxL ret ws' rm mc ms np) (hst : stk = As.reverse ++ vR r :: st) (hn : As.length = np) (ha : r = some b) (hT : mT M b = ci + 1) (hlt : ci + 1 < 20) (hc : vwCl[ci]? = some C) (hroom : (st.map gw).sum ≤ 8) (hd : decode cc pc = .ok (.invokevirtual index, 3)) (hf : k + mc ≤ R.cells ∧ n + ms ≤ R.slots)
    (kk : ∀ v d1, P v → s.drawn.sameBut d1 lw_cs → gGo p l e R (s.setDrawn d1) m args below meth c D cy B H0 nL (k + mc) (n + ms) Q (pc + 3) (lv) (vD v :: st) (M1)) : gGo p l e R (s.setDrawn d0) m args below meth c D cy B H0 nL k n Q (pc) (lv) (stk) (M) := fun H locs ls hW hS hl => by
  subst hst; subst ha
  have hS : va_S (gA B) s.heap H locs := hS
  intro T hT1 X1
  have hs : (F0 m pc ls ((As.reverse ++ vR (some b) :: st).map gv)).stack = (As.map gv).reverse ++ Value.ref b :: st.map gv := by
    show ((As.reverse ++ vR (some b) :: st).map gv) = _
    rw [List.map_append, List.map_reverse]; rfl
  obtain ⟨v', st₀, t, T', L, d', hd', h0, X', hL, e1, e2, ⟨v, hP, hv, hw, hz⟩, hst⟩ := va_runV_D (s := s.setDrawn d0) (g := F0 m pc ls ((As.reverse ++ vR (some b) :: st).map gv)) (As := As.map gv) (rest := st.map gv) (gX_fix X) hM cw ⟨gPre_blind, gW_recv X hW hT hlt hc, fun U hU hw => gPre_at X hW hU hw⟩ rfl (by rw [List.length_map]; exact hn) hl.1 hs (groom hroom) hd hf T hT1 X1
  cases hv
  rw [h0] at hz
  have hS' : va_S (gA B) s.heap T'.heap (locs ++ L) := ⟨Nat.le_trans hS.1 (by rw [e1]; exact hz), fun q h1 h2 => by
    have hq : q < B := Nat.not_le.mp h2
    rw [e1, hw.2.2.1 q hq, ← hS.2.1 q h1 h2, hW.2.2.1 q hq], fun q hq => by
      rcases List.mem_append.mp hq with h | h
      · exact hS.2.2 q h
      · exact hL q h⟩
  obtain ⟨t2, a1, b1⟩ := kk v d' hP (hd0.trans hd') T'.heap (locs ++ L) ls (by rw [e1]; exact hw) hS' hl T' rfl X'
  exact ⟨t2, hst t2 a1, b1⟩
end GLAW5
section GLAW6
variable {p : Program} {l : Launch} {e : Env} {s : State} {m : MethodId} {below : List Frame} {meth : Method} {c : Code} {D : va_G} {cy : Nat → ClassId} {B : Nat} {H0 : Heap} {Z : Nat → Nat} {k n : Nat} {Q : State → Prop} {M : gMem} {b x mm i j : Nat} {d0 : Drawn}
set_option maxRecDepth 20000 in
theorem law_c_mean (hd0 : s.drawn.sameBut d0 lw_cs) (X0 : gXL p s m b meth c D cy B Z H0) (S : LIv Z x mm i M) (hf : k + 160 ≤ 601024 ∧ n + 1600 ≤ 7293034) (kk : ∀ M' d1, s.drawn.sameBut d1 lw_cs → LIv Z x mm (i + 1) M' → gGL p l e (s.setDrawn d1) m b below meth c D cy B H0 (k + 160) (n + 1600) Q 1290 (lLv b x mm j) [] M') : gGL p l e (s.setDrawn d0) m b below meth c D cy B H0 k n Q 1235 (lLv b x mm j) [] M := by
  obtain ⟨T1, T2, T3, -, -⟩ := LIv_T S
  obtain ⟨o, o', t, nn, kb, T, S, hk⟩ := S
  obtain ⟨F, a, ⟨c1, c2, c3, c4, c5⟩, ⟨h1, h2, h3, h4, h5, h6, h7, h8⟩, S2⟩ := T_mean S
  have X := gX_dr X0 d0
  refine g_aload_n (x := some x) X dL_law_1235 rfl rfl ?_
  refine g_callVD (ci := 9) (b := x) (As := []) (st := []) hd0 (gX_w (gX_w3 X)) (m_X11_mean l c1 c2 c3 c4 c5) (cwV 0 X.2.2.1 (gMono gL_law_X11_mean) rfl rfl rfl (by decide +kernel) ⟨Nat.le_of_ble_eq_true rfl, Nat.le_of_ble_eq_true rfl⟩) rfl rfl rfl T1 (by decide) rfl (Nat.le_of_ble_eq_true rfl) dL_law_1236 ⟨(show _ ≤ 601024 by omega), (show _ ≤ 7293034 by omega)⟩ (fun v d1 hv hd1 => ?_)
  have X := gX_dr X0 d1
  refine g_dstore (lv' := (5, vD v) :: lLv b x mm j) X dL_law_1239 (by decide) rfl ?_
  refine g_aload_n (x := some mm) X dL_law_1241 rfl rfl ?_
  refine g_callVD (ci := 12) (b := mm) (As := []) (st := []) hd1 (gX_w (gX_w3 X)) (m_X14_mean l T2 rfl h1 h2 h3 h4 h5 h6 h7 h8) (cwV 0 X.2.2.1 (gMono gL_law_X14_mean) rfl rfl rfl (by decide +kernel) ⟨Nat.le_of_ble_eq_true rfl, Nat.le_of_ble_eq_true rfl⟩) rfl rfl rfl T2 (by decide) rfl (Nat.le_of_ble_eq_true rfl) dL_law_1242 ⟨(show _ ≤ 601024 by omega), (show _ ≤ 7293034 by omega)⟩ (fun w d2 hw hd2 => ?_)
  have X := gX_dr X0 d2
  refine g_dstore (lv' := (7, vD w) :: (5, vD v) :: lLv b x mm j) X dL_law_1245 (by decide) rfl ?_
  have fin : gGL p l e (s.setDrawn d2) m b below meth c D cy B H0 (k + 0 + 0) (n + 0 + 0) Q 1273 ((7, vD w) :: (5, vD v) :: lLv b x mm j) [] (wI M mm 0 0) := g_goto (tgt := 1290) X dL_law_1273 (by decide) (g_sub (lvsub_of _ _ [2, 3, 4, 5, 6] rfl) (g_wide (by omega) (by omega) (kk _ d2 hd2 ⟨_, _, _, _, _, _, S2, by omega⟩)))
  have hq := mQ_cmp hv hw
  refine g_dload (x := v) X dL_law_1247 rfl ?_
  refine g_dload (x := w) X dL_law_1249 rfl ?_
  refine g_dcmp X dL_law_1251 ?_
  refine g_if_eq (tgt := 1273) X dL_law_1252 (by decide) (fun _ => fin) (fun hne => ?_)
  have hq := hq.resolve_left hne
  refine g_dload (x := v) X dL_law_1255 rfl ?_
  refine g_dload (x := v) X dL_law_1257 rfl ?_
  refine g_dcmp X dL_law_1259 ?_
  refine g_if_eq (tgt := 1271) X dL_law_1260 (by decide) (fun h => absurd h hq.1) (fun _ => ?_)
  refine g_dload (x := w) X dL_law_1263 rfl ?_
  refine g_dload (x := w) X dL_law_1265 rfl ?_
  refine g_dcmp X dL_law_1267 ?_
  exact g_if_ne (tgt := 1273) X dL_law_1268 (by decide) (fun _ => fin) (fun h => absurd h hq.2)
end GLAW6
