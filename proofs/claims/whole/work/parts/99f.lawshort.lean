/-! ### the law's short cases -/
section GLAW4
variable {p : Program} {l : Launch} {e : Env} {s : State} {m : MethodId} {below : List Frame} {meth : Method} {c : Code} {D : va_G} {cy : Nat → ClassId} {B : Nat} {H0 : Heap} {Z : Nat → Nat} {k n : Nat} {Q : State → Prop} {M : gMem} {b x mm i j : Nat}
set_option maxRecDepth 20000 in
theorem law_c_teach (hZ : ∀ a b : Nat, a < 45 → b < 45 → Z a = Z b → a = b) (X : gXL p s m b meth c D cy B Z H0) (S : LIv Z x mm i M) (hf : k + 160 ≤ 601024 ∧ n + 1600 ≤ 7293034) (kk : ∀ M', LIv Z x mm (i + 1) M' → gGL p l e s m b below meth c D cy B H0 (k + 160) (n + 1600) Q 1290 (lLv b x mm j) [] M') : gGL p l e s m b below meth c D cy B H0 k n Q 300 (lLv b x mm j) [] M := by
  obtain ⟨T1, T2, T3, -, -⟩ := LIv_T S
  obtain ⟨o, o', t, nn, kb, T, S, hk⟩ := S
  obtain ⟨r, M1, M2, o1, o1', t1, f1, g1, S2, -⟩ := T_teachS S hZ
  have T2' : mT M1 mm = 13 := by
    have g := g1
    unfold f_X14_teach b_X14_teach_0 at g
    exact (ck_e g).1
  refine g_aload_n (x := some x) X dL_law_300 rfl rfl ?_
  refine g_callV (ci := 9) (b := x) (As := []) (st := []) (v := some (vI r)) (M1 := M1) (gX_w (gX_w3 X)) (m_X11_teach l f1) (cwV 0 X.2.2.1 (gMono gL_law_X11_teach) rfl rfl rfl (by decide +kernel) ⟨Nat.le_of_ble_eq_true rfl, Nat.le_of_ble_eq_true rfl⟩) rfl rfl rfl T1 (by decide) rfl (Nat.le_of_ble_eq_true rfl) dL_law_301 ⟨(show _ ≤ 601024 by omega), (show _ ≤ 7293034 by omega)⟩ ?_
  refine g_aload_n (x := some mm) X dL_law_304 rfl rfl ?_
  refine g_callV (ci := 12) (b := mm) (As := []) (st := [vI r]) (v := some (vI r)) (M1 := M2) (gX_w3 X) (m_X14_teach l g1) (cwV 0 X.2.2.1 (gMono gL_law_X14_teach) rfl rfl rfl (by decide +kernel) ⟨Nat.le_of_ble_eq_true rfl, Nat.le_of_ble_eq_true rfl⟩) rfl rfl rfl T2' (by decide) rfl (Nat.le_of_ble_eq_true rfl) dL_law_305 ⟨(show _ ≤ 601024 by omega), (show _ ≤ 7293034 by omega)⟩ ?_
  exact g_icmp_eq (tgt := 1290) X dL_law_308 (by decide) (fun _ => g_wide (by omega) (by omega) (kk M2 ⟨_, _, _, _, _, _, S2, by omega⟩)) (fun h => absurd rfl h)
set_option maxRecDepth 20000 in
theorem law_c_errorAt (X : gXL p s m b meth c D cy B Z H0) (S : LIv Z x mm i M) (hf : k + 160 ≤ 601024 ∧ n + 1600 ≤ 7293034) (kk : ∀ M', LIv Z x mm (i + 1) M' → gGL p l e s m b below meth c D cy B H0 (k + 160) (n + 1600) Q 1290 (lLv b x mm j) [] M') : gGL p l e s m b below meth c D cy B H0 k n Q 313 (lLv b x mm j) [] M := by
  obtain ⟨T1, T2, T3, -, -⟩ := LIv_T S
  obtain ⟨o, o', t, nn, kb, T, S, hk⟩ := S
  obtain ⟨r, f1, g1, S2⟩ := T_errorAt S
  refine g_aload_n (x := some x) X dL_law_313 rfl rfl ?_
  refine g_callV (ci := 9) (b := x) (As := []) (st := []) (v := some (vI r)) (M1 := M) (gX_w (gX_w3 X)) (m_X11_errorAt l f1) (cwV 0 X.2.2.1 (gMono gL_law_X11_errorAt) rfl rfl rfl (by decide +kernel) ⟨Nat.le_of_ble_eq_true rfl, Nat.le_of_ble_eq_true rfl⟩) rfl rfl rfl T1 (by decide) rfl (Nat.le_of_ble_eq_true rfl) dL_law_314 ⟨(show _ ≤ 601024 by omega), (show _ ≤ 7293034 by omega)⟩ ?_
  refine g_aload_n (x := some mm) X dL_law_317 rfl rfl ?_
  refine g_callV (ci := 12) (b := mm) (As := []) (st := [vI r]) (v := some (vI r)) (M1 := wI M mm 0 0) (gX_w (gX_w3 X)) (m_X14_errorAt l g1) (cwV 0 X.2.2.1 (gMono gL_law_X14_errorAt) rfl rfl rfl (by decide +kernel) ⟨Nat.le_of_ble_eq_true rfl, Nat.le_of_ble_eq_true rfl⟩) rfl rfl rfl T2 (by decide) rfl (Nat.le_of_ble_eq_true rfl) dL_law_318 ⟨(show _ ≤ 601024 by omega), (show _ ≤ 7293034 by omega)⟩ ?_
  exact g_icmp_eq (tgt := 1290) X dL_law_321 (by decide) (fun _ => g_wide (by omega) (by omega) (kk _ ⟨_, _, _, _, _, _, S2, by omega⟩)) (fun h => absurd rfl h)
set_option maxRecDepth 20000 in
theorem law_c_gap (X : gXL p s m b meth c D cy B Z H0) (S : LIv Z x mm i M) (hi : i ≤ 600) (hf : k + 160 ≤ 601024 ∧ n + 1600 ≤ 7293034) (kk : ∀ M', LIv Z x mm (i + 1) M' → gGL p l e s m b below meth c D cy B H0 (k + 160) (n + 1600) Q 1290 (lLv b x mm j) [] M') : gGL p l e s m b below meth c D cy B H0 k n Q 906 (lLv b x mm j) [] M := by
  obtain ⟨T1, T2, T3, -, -⟩ := LIv_T S
  obtain ⟨o, o', t, nn, kb, T, S, hk⟩ := S
  obtain ⟨r, f1, g1, S2⟩ := T_gap S (by omega)
  refine g_aload_n (x := some x) X dL_law_906 rfl rfl ?_
  refine g_callV (ci := 9) (b := x) (As := []) (st := []) (v := some (vI r)) (M1 := M) (gX_w (gX_w3 X)) (m_X11_gap l f1) (cwV 0 X.2.2.1 (gMono gL_law_X11_gap) rfl rfl rfl (by decide +kernel) ⟨Nat.le_of_ble_eq_true rfl, Nat.le_of_ble_eq_true rfl⟩) rfl rfl rfl T1 (by decide) rfl (Nat.le_of_ble_eq_true rfl) dL_law_907 ⟨(show _ ≤ 601024 by omega), (show _ ≤ 7293034 by omega)⟩ ?_
  refine g_aload_n (x := some mm) X dL_law_910 rfl rfl ?_
  refine g_callV (ci := 12) (b := mm) (As := []) (st := [vI r]) (v := some (vI r)) (M1 := wI M mm 0 0) (gX_w (gX_w3 X)) (m_X14_gap l g1) (cwV 0 X.2.2.1 (gMono gL_law_X14_gap) rfl rfl rfl (by decide +kernel) ⟨Nat.le_of_ble_eq_true rfl, Nat.le_of_ble_eq_true rfl⟩) rfl rfl rfl T2 (by decide) rfl (Nat.le_of_ble_eq_true rfl) dL_law_911 ⟨(show _ ≤ 601024 by omega), (show _ ≤ 7293034 by omega)⟩ ?_
  exact g_icmp_eq (tgt := 1290) X dL_law_914 (by decide) (fun _ => g_wide (by omega) (by omega) (kk _ ⟨_, _, _, _, _, _, S2, by omega⟩)) (fun h => absurd rfl h)
set_option maxRecDepth 20000 in
theorem law_c_digest (X : gXL p s m b meth c D cy B Z H0) (S : LIv Z x mm i M) (hf : k + 160 ≤ 601024 ∧ n + 1600 ≤ 7293034) (kk : ∀ M', LIv Z x mm (i + 1) M' → gGL p l e s m b below meth c D cy B H0 (k + 160) (n + 1600) Q 1290 (lLv b x mm j) [] M') : gGL p l e s m b below meth c D cy B H0 k n Q 1276 (lLv b x mm j) [] M := by
  obtain ⟨T1, T2, T3, -, -⟩ := LIv_T S
  obtain ⟨o, o', t, nn, kb, T, S, hk⟩ := S
  obtain ⟨r, M1, M2, f1, g1, S2, -⟩ := T_digest S
  have T2' : mT M1 mm = 13 := by
    have g := g1
    unfold f_X14_digest b_X14_digest_0 at g
    exact (ck_e g).1
  refine g_aload_n (x := some x) X dL_law_1276 rfl rfl ?_
  refine g_callV (ci := 9) (b := x) (As := []) (st := []) (v := some (vJ r)) (M1 := M1) (gX_w (gX_w3 X)) (m_X11_digest l f1) (cwV 0 X.2.2.1 (gMono gL_law_X11_digest) rfl rfl rfl (by decide +kernel) ⟨Nat.le_of_ble_eq_true rfl, Nat.le_of_ble_eq_true rfl⟩) rfl rfl rfl T1 (by decide) rfl (Nat.le_of_ble_eq_true rfl) dL_law_1277 ⟨(show _ ≤ 601024 by omega), (show _ ≤ 7293034 by omega)⟩ ?_
  refine g_aload_n (x := some mm) X dL_law_1280 rfl rfl ?_
  refine g_callV (ci := 12) (b := mm) (As := []) (st := [vJ r]) (v := some (vJ r)) (M1 := M2) (gX_w (gX_w3 X)) (m_X14_digest l g1) (cwV 0 X.2.2.1 (gMono gL_law_X14_digest) rfl rfl rfl (by decide +kernel) ⟨Nat.le_of_ble_eq_true rfl, Nat.le_of_ble_eq_true rfl⟩) rfl rfl rfl T2' (by decide) rfl (Nat.le_of_ble_eq_true rfl) dL_law_1281 ⟨(show _ ≤ 601024 by omega), (show _ ≤ 7293034 by omega)⟩ ?_
  refine g_lcmp X dL_law_1284 ?_
  exact g_if_eq (tgt := 1290) X dL_law_1285 (by decide) (fun _ => g_wide (by omega) (by omega) (kk _ ⟨_, _, _, _, _, _, S2, by omega⟩)) (fun h => absurd law_cmp0 h)
end GLAW4
