section
variable {p : Program} {l : Launch} {e : Env} {s : State} {m : MethodId} {args : Array Value} {below : List Frame} {meth : Method} {c : Code} {D : va_G} {cy : Nat → ClassId} {B : Nat} {H0 : Heap} {Z : Nat → Nat}
/-! ## TideLots.took(II)I -/
theorem k_X11_took_n_f19 : Cond.fieldLink RX11 19 "TideLots" "shore" "LTideLots$Shore;" ∈ wsX11_took := by decide +kernel
theorem i_X11_took_n_X11 : ∀ w ∈ u_ws RX11 TX11 4, w ∈ wsX11_took := by decide +kernel
theorem k_X11_took_n_f125 : Cond.fieldLink RX11 125 "TideLots$Shore" "fishers" "[LTideLots$Fisher;" ∈ wsX11_took := by decide +kernel
theorem i_X11_took_n_X7 : ∀ w ∈ u_ws RX7 TX7 17, w ∈ wsX11_took := by decide +kernel
theorem k_X11_took_n_f203 : Cond.fieldLink RX11 203 "TideLots$Fisher" "took" "[I" ∈ wsX11_took := by decide +kernel
theorem i_X11_took_n_X1 : ∀ w ∈ u_ws RX1 TX1 11, w ∈ wsX11_took := by decide +kernel
abbrev rX11_took_n : Room := { frames := 1, cells := 0, slots := 0, locals := 21 }
noncomputable def b_X11_took_n_0 (M : gMem) (x0 : Nat) (x1 : Int32) (x2 : Int32) : Option (Int32 × gMem) :=
  ck (mT M x0 = 10) <| bd (f_X11_checkGround_n M x0 x1) fun _ M1 => ck (mT M1 x0 = 10) <| bd (f_X11_checkFisher_n M1 x0 x2) fun _ M3 => ck (mT M3 x0 = 10) <| dr ((mR M3 x0 1)) fun a6 => ck (mT M3 a6 = 7) <| dr ((mR M3 a6 7)) fun a8 => ck (mT M3 a8 = 24) <| ck (inb x2 (mL M3 a8)) <| dr ((mR M3 a8 x2.toNatClampNeg)) fun a11 => ck (mT M3 a11 = 1) <| dr ((mR M3 a11 10)) fun a13 => ck (mT M3 a13 = 20) <| ck (inb x1 (mL M3 a13)) <| some ((mI M3 a13 x1.toNatClampNeg), M3)
noncomputable def f_X11_took_n (M : gMem) (x0 : Nat) (x1 : Int32) (x2 : Int32) : Option (Int32 × gMem) :=
  b_X11_took_n_0 M x0 x1 x2
set_option maxHeartbeats 4000000 in
set_option maxRecDepth 100000 in
theorem t_X11_took_n_0 (X : gX p s m args meth c D cy B (gSt Z B H0) RX11 cX11_took wsX11_took 3) (hr : meth.sig.returnType = (some .int)) {Q : State → Prop} : ∀ (M : gMem) (x0 : Nat) (x1 : Int32) (x2 : Int32) (z : Int32 × gMem), b_X11_took_n_0 M x0 x1 x2 = some z → (fun (r : Int32 × gMem) => Q = gMQ below D cy B H0 args s 0 0 (some (vI r.1)) r.2) z → gGo p l e rX11_took_n s m args below meth c D cy B H0 3 0 0 Q 0 [(0, vR (some x0)), (1, vI x1), (2, vI x2)] [] M := by
  intro M x0 x1 x2 z hf hK
  unfold b_X11_took_n_0 at hf
  refine g_aload_n X dX11_took_0 rfl rfl ?_
  refine g_iload_n X dX11_took_1 rfl rfl ?_
  obtain ⟨hT2, hf⟩ := ck_e hf
  obtain ⟨r1, M1, hq1, hf⟩ := bd_e hf
  refine g_callV (ci := 9) (b := x0) (As := [vI x1]) (st := []) (v := none) (M1 := M1) X (m_X11_checkGround_n l hq1) (cwV 1 X.2.2.1 gX11_took_X11_checkGround rfl rfl rfl (by decide +kernel) ⟨Nat.le_of_ble_eq_true rfl, Nat.le_of_ble_eq_true rfl⟩) rfl rfl rfl hT2 (by decide) rfl (Nat.le_of_ble_eq_true rfl) dX11_took_2 ⟨by decide, by decide⟩ ?_
  refine g_aload_n X dX11_took_5 rfl rfl ?_
  refine g_iload_n X dX11_took_6 rfl rfl ?_
  obtain ⟨hT4, hf⟩ := ck_e hf
  obtain ⟨r3, M3, hq3, hf⟩ := bd_e hf
  refine g_callV (ci := 9) (b := x0) (As := [vI x2]) (st := []) (v := none) (M1 := M3) X (m_X11_checkFisher_n l hq3) (cwV 1 X.2.2.1 gX11_took_X11_checkFisher rfl rfl rfl (by decide +kernel) ⟨Nat.le_of_ble_eq_true rfl, Nat.le_of_ble_eq_true rfl⟩) rfl rfl rfl hT4 (by decide) rfl (Nat.le_of_ble_eq_true rfl) dX11_took_7 ⟨by decide, by decide⟩ ?_
  refine g_aload_n X dX11_took_10 rfl rfl ?_
  obtain ⟨hT5, hf⟩ := ck_e hf
  refine g_get (ci := 9) (v := vR (mR M3 x0 1)) 1 X cdX11 i_X11_took_n_X11 (by decide) k_X11_took_n_f19 rfl dX11_took_11 rfl hT5 rfl ?_
  obtain ⟨a6, ha6, hf⟩ := dr_e hf
  obtain ⟨hT7, hf⟩ := ck_e hf
  refine g_get (ci := 6) (v := vR (mR M3 a6 7)) 7 X cdX7 i_X11_took_n_X7 (by decide) k_X11_took_n_f125 rfl dX11_took_14 ha6 hT7 rfl ?_
  refine g_iload_n X dX11_took_17 rfl rfl ?_
  obtain ⟨a8, ha8, hf⟩ := dr_e hf
  obtain ⟨hT9, hf⟩ := ck_e hf
  obtain ⟨hg10, hf⟩ := ck_e hf
  refine g_aald (t0 := 4) X dX11_took_18 ha8 hT9 (by decide) rfl hg10 ?_
  obtain ⟨a11, ha11, hf⟩ := dr_e hf
  obtain ⟨hT12, hf⟩ := ck_e hf
  refine g_get (ci := 0) (v := vR (mR M3 a11 10)) 10 X cdX1 i_X11_took_n_X1 (by decide) k_X11_took_n_f203 rfl dX11_took_19 ha11 hT12 rfl ?_
  refine g_iload_n X dX11_took_22 rfl rfl ?_
  obtain ⟨a13, ha13, hf⟩ := dr_e hf
  obtain ⟨hT14, hf⟩ := ck_e hf
  obtain ⟨hg15, hf⟩ := ck_e hf
  refine g_iald X dX11_took_23 ha13 hT14 hg15 ?_
  cases hf
  refine g_eqQ hK ?_
  exact g_iret X hr dX11_took_24
set_option maxHeartbeats 4000000 in
set_option maxRecDepth 100000 in
theorem m_X11_took_n (l : Launch) {D : va_G} {cy : Nat → ClassId} {B : Nat} {H0 : Heap} {Z : Nat → Nat} {M M1 : gMem} {x0 : Nat} {x1 : Int32} {x2 : Int32} {r : Int32} (hf : f_X11_took_n M x0 x1 x2 = some (r, M1)) : Met l yX11_took wsX11_took rX11_took_n (va_Pc (Value.ref x0 :: List.map gv [vI x1, vI x2]) (gPre D cy B H0 (gSt Z B H0) M)) (gQ D cy B H0 (some (vI r)) M1) 0 0 (gA B) := by
  refine Met.ofW (cc := cX11_took) (maxL := 3) (ret := (some .int)) (by decide) rfl ?_
  intro p e s m args below meth c s₁ Bd hml hv
  obtain ⟨rfl, hW, hKK, hFs⟩ := hv
  have X : gX p s m _ meth c D cy B (gSt Z B H0) RX11 cX11_took wsX11_took 3 := ⟨Bd.exec, Bd.bytes, atoms_spec (ws := wsX11_took) Bd.pre, findClass_of_methodNamed Bd.named, hml, hKK, by rw [hW.1]; exact hW.2.1, Bd.notSynchronized, hFs⟩
  have hr := Bd.returns
  have hl := lv_entry ([.ref x0, .int x1, .int x2]) (n := 3) (Nat.le_of_ble_eq_true rfl)
  show W p l e rX11_took_n s m _ below meth c s.heap [] 0 0 _ (entryFrame m ([.ref x0, .int x1, .int x2] : List Value).toArray 3)
  rw [lg_entry_eq]
  generalize (lg_sl ([.ref x0, .int x1, .int x2]) ++ List.replicate (3 - (lg_sl ([.ref x0, .int x1, .int x2])).length) Slot.unset).toArray = ls at hl ⊢
  have hl : lv_has ls 3 (List.map gq [(0, vR (some x0)), (1, vI x1), (2, vI x2)]) := hl
  exact t_X11_took_n_0 X hr _ _ _ _ _ hf rfl s.heap [] ls hW va_S.rf (lv_has_sub hl (lvsub_of _ _ [0, 1, 2] rfl))
/-! ## TideLots.digest()J -/
theorem dX11_digest_0 : decode cX11_digest 0 = .ok (.ldc2_w 223, 3) := by decide +kernel
theorem dX11_digest_3 : decode cX11_digest 3 = .ok (.lstore_n 1, 1) := by decide +kernel
theorem dX11_digest_4 : decode cX11_digest 4 = .ok (.iconst 0, 1) := by decide +kernel
theorem dX11_digest_5 : decode cX11_digest 5 = .ok (.istore_n 3, 1) := by decide +kernel
theorem dX11_digest_6 : decode cX11_digest 6 = .ok (.iload_n 3, 1) := by decide +kernel
theorem dX11_digest_7 : decode cX11_digest 7 = .ok (.bipush 9, 2) := by decide +kernel
theorem dX11_digest_9 : decode cX11_digest 9 = .ok (.if_icmp .gt 22, 3) := by decide +kernel
theorem dX11_digest_12 : decode cX11_digest 12 = .ok (.lload_n 1, 1) := by decide +kernel
theorem dX11_digest_13 : decode cX11_digest 13 = .ok (.ldc2_w 225, 3) := by decide +kernel
theorem dX11_digest_16 : decode cX11_digest 16 = .ok (.lmul, 1) := by decide +kernel
theorem dX11_digest_17 : decode cX11_digest 17 = .ok (.aload_n 0, 1) := by decide +kernel
theorem dX11_digest_18 : decode cX11_digest 18 = .ok (.iload_n 3, 1) := by decide +kernel
theorem dX11_digest_19 : decode cX11_digest 19 = .ok (.invokevirtual 227, 3) := by decide +kernel
theorem dX11_digest_22 : decode cX11_digest 22 = .ok (.i2l, 1) := by decide +kernel
theorem dX11_digest_23 : decode cX11_digest 23 = .ok (.ladd, 1) := by decide +kernel
theorem dX11_digest_24 : decode cX11_digest 24 = .ok (.lstore_n 1, 1) := by decide +kernel
theorem dX11_digest_25 : decode cX11_digest 25 = .ok (.iinc 3 1, 3) := by decide +kernel
theorem dX11_digest_28 : decode cX11_digest 28 = .ok (.goto (-22), 3) := by decide +kernel
theorem dX11_digest_31 : decode cX11_digest 31 = .ok (.iconst 0, 1) := by decide +kernel
theorem dX11_digest_32 : decode cX11_digest 32 = .ok (.istore_n 3, 1) := by decide +kernel
theorem dX11_digest_33 : decode cX11_digest 33 = .ok (.iload_n 3, 1) := by decide +kernel
theorem dX11_digest_34 : decode cX11_digest 34 = .ok (.aload_n 0, 1) := by decide +kernel
theorem dX11_digest_35 : decode cX11_digest 35 = .ok (.getfield 19, 3) := by decide +kernel
theorem dX11_digest_38 : decode cX11_digest 38 = .ok (.getfield 68, 3) := by decide +kernel
theorem dX11_digest_41 : decode cX11_digest 41 = .ok (.if_icmp .ge 76, 3) := by decide +kernel
theorem dX11_digest_44 : decode cX11_digest 44 = .ok (.iconst 0, 1) := by decide +kernel
theorem dX11_digest_45 : decode cX11_digest 45 = .ok (.istore 4, 2) := by decide +kernel
theorem dX11_digest_47 : decode cX11_digest 47 = .ok (.iload 4, 2) := by decide +kernel
theorem dX11_digest_49 : decode cX11_digest 49 = .ok (.bipush 8, 2) := by decide +kernel
theorem dX11_digest_51 : decode cX11_digest 51 = .ok (.if_icmp .gt 24, 3) := by decide +kernel
theorem dX11_digest_54 : decode cX11_digest 54 = .ok (.lload_n 1, 1) := by decide +kernel
theorem dX11_digest_55 : decode cX11_digest 55 = .ok (.ldc2_w 225, 3) := by decide +kernel
theorem dX11_digest_58 : decode cX11_digest 58 = .ok (.lmul, 1) := by decide +kernel
theorem dX11_digest_59 : decode cX11_digest 59 = .ok (.aload_n 0, 1) := by decide +kernel
theorem dX11_digest_60 : decode cX11_digest 60 = .ok (.iload_n 3, 1) := by decide +kernel
theorem dX11_digest_61 : decode cX11_digest 61 = .ok (.iload 4, 2) := by decide +kernel
theorem dX11_digest_63 : decode cX11_digest 63 = .ok (.invokevirtual 230, 3) := by decide +kernel
theorem dX11_digest_66 : decode cX11_digest 66 = .ok (.i2l, 1) := by decide +kernel
theorem dX11_digest_67 : decode cX11_digest 67 = .ok (.ladd, 1) := by decide +kernel
theorem dX11_digest_68 : decode cX11_digest 68 = .ok (.lstore_n 1, 1) := by decide +kernel
theorem dX11_digest_69 : decode cX11_digest 69 = .ok (.iinc 4 1, 3) := by decide +kernel
theorem dX11_digest_72 : decode cX11_digest 72 = .ok (.goto (-25), 3) := by decide +kernel
theorem dX11_digest_75 : decode cX11_digest 75 = .ok (.iconst 0, 1) := by decide +kernel
theorem dX11_digest_76 : decode cX11_digest 76 = .ok (.istore 4, 2) := by decide +kernel
theorem dX11_digest_78 : decode cX11_digest 78 = .ok (.iload 4, 2) := by decide +kernel
theorem dX11_digest_80 : decode cX11_digest 80 = .ok (.aload_n 0, 1) := by decide +kernel
theorem dX11_digest_81 : decode cX11_digest 81 = .ok (.getfield 19, 3) := by decide +kernel
theorem dX11_digest_84 : decode cX11_digest 84 = .ok (.getfield 71, 3) := by decide +kernel
theorem dX11_digest_87 : decode cX11_digest 87 = .ok (.if_icmp .ge 24, 3) := by decide +kernel
theorem dX11_digest_90 : decode cX11_digest 90 = .ok (.lload_n 1, 1) := by decide +kernel
theorem dX11_digest_91 : decode cX11_digest 91 = .ok (.ldc2_w 225, 3) := by decide +kernel
theorem dX11_digest_94 : decode cX11_digest 94 = .ok (.lmul, 1) := by decide +kernel
theorem dX11_digest_95 : decode cX11_digest 95 = .ok (.aload_n 0, 1) := by decide +kernel
theorem dX11_digest_96 : decode cX11_digest 96 = .ok (.iload_n 3, 1) := by decide +kernel
theorem dX11_digest_97 : decode cX11_digest 97 = .ok (.iload 4, 2) := by decide +kernel
theorem dX11_digest_99 : decode cX11_digest 99 = .ok (.invokevirtual 233, 3) := by decide +kernel
theorem dX11_digest_102 : decode cX11_digest 102 = .ok (.i2l, 1) := by decide +kernel
theorem dX11_digest_103 : decode cX11_digest 103 = .ok (.ladd, 1) := by decide +kernel
theorem dX11_digest_104 : decode cX11_digest 104 = .ok (.lstore_n 1, 1) := by decide +kernel
theorem dX11_digest_105 : decode cX11_digest 105 = .ok (.iinc 4 1, 3) := by decide +kernel
theorem dX11_digest_108 : decode cX11_digest 108 = .ok (.goto (-30), 3) := by decide +kernel
theorem dX11_digest_111 : decode cX11_digest 111 = .ok (.iinc 3 1, 3) := by decide +kernel
theorem dX11_digest_114 : decode cX11_digest 114 = .ok (.goto (-81), 3) := by decide +kernel
theorem dX11_digest_117 : decode cX11_digest 117 = .ok (.iconst 0, 1) := by decide +kernel
theorem dX11_digest_118 : decode cX11_digest 118 = .ok (.istore_n 3, 1) := by decide +kernel
theorem dX11_digest_119 : decode cX11_digest 119 = .ok (.iload_n 3, 1) := by decide +kernel
theorem dX11_digest_120 : decode cX11_digest 120 = .ok (.aload_n 0, 1) := by decide +kernel
theorem dX11_digest_121 : decode cX11_digest 121 = .ok (.getfield 19, 3) := by decide +kernel
theorem dX11_digest_124 : decode cX11_digest 124 = .ok (.getfield 71, 3) := by decide +kernel
theorem dX11_digest_127 : decode cX11_digest 127 = .ok (.if_icmp .ge 40, 3) := by decide +kernel
theorem dX11_digest_130 : decode cX11_digest 130 = .ok (.iconst 0, 1) := by decide +kernel
theorem dX11_digest_131 : decode cX11_digest 131 = .ok (.istore 4, 2) := by decide +kernel
theorem dX11_digest_133 : decode cX11_digest 133 = .ok (.iload 4, 2) := by decide +kernel
theorem dX11_digest_135 : decode cX11_digest 135 = .ok (.bipush 9, 2) := by decide +kernel
theorem dX11_digest_137 : decode cX11_digest 137 = .ok (.if_icmp .gt 24, 3) := by decide +kernel
theorem dX11_digest_140 : decode cX11_digest 140 = .ok (.lload_n 1, 1) := by decide +kernel
theorem dX11_digest_141 : decode cX11_digest 141 = .ok (.ldc2_w 225, 3) := by decide +kernel
theorem dX11_digest_144 : decode cX11_digest 144 = .ok (.lmul, 1) := by decide +kernel
theorem dX11_digest_145 : decode cX11_digest 145 = .ok (.aload_n 0, 1) := by decide +kernel
theorem dX11_digest_146 : decode cX11_digest 146 = .ok (.iload_n 3, 1) := by decide +kernel
theorem dX11_digest_147 : decode cX11_digest 147 = .ok (.iload 4, 2) := by decide +kernel
theorem dX11_digest_149 : decode cX11_digest 149 = .ok (.invokevirtual 235, 3) := by decide +kernel
theorem dX11_digest_152 : decode cX11_digest 152 = .ok (.i2l, 1) := by decide +kernel
theorem dX11_digest_153 : decode cX11_digest 153 = .ok (.ladd, 1) := by decide +kernel
theorem dX11_digest_154 : decode cX11_digest 154 = .ok (.lstore_n 1, 1) := by decide +kernel
theorem dX11_digest_155 : decode cX11_digest 155 = .ok (.iinc 4 1, 3) := by decide +kernel
theorem dX11_digest_158 : decode cX11_digest 158 = .ok (.goto (-25), 3) := by decide +kernel
theorem dX11_digest_161 : decode cX11_digest 161 = .ok (.iinc 3 1, 3) := by decide +kernel
theorem dX11_digest_164 : decode cX11_digest 164 = .ok (.goto (-45), 3) := by decide +kernel
theorem dX11_digest_167 : decode cX11_digest 167 = .ok (.iconst 0, 1) := by decide +kernel
theorem dX11_digest_168 : decode cX11_digest 168 = .ok (.istore_n 3, 1) := by decide +kernel
theorem dX11_digest_169 : decode cX11_digest 169 = .ok (.iload_n 3, 1) := by decide +kernel
theorem dX11_digest_170 : decode cX11_digest 170 = .ok (.aload_n 0, 1) := by decide +kernel
theorem dX11_digest_171 : decode cX11_digest 171 = .ok (.getfield 19, 3) := by decide +kernel
theorem dX11_digest_174 : decode cX11_digest 174 = .ok (.getfield 77, 3) := by decide +kernel
theorem dX11_digest_177 : decode cX11_digest 177 = .ok (.if_icmp .ge 40, 3) := by decide +kernel
theorem dX11_digest_180 : decode cX11_digest 180 = .ok (.iconst 0, 1) := by decide +kernel
theorem dX11_digest_181 : decode cX11_digest 181 = .ok (.istore 4, 2) := by decide +kernel
theorem dX11_digest_183 : decode cX11_digest 183 = .ok (.iload 4, 2) := by decide +kernel
theorem dX11_digest_185 : decode cX11_digest 185 = .ok (.bipush 6, 2) := by decide +kernel
theorem dX11_digest_187 : decode cX11_digest 187 = .ok (.if_icmp .gt 24, 3) := by decide +kernel
theorem dX11_digest_190 : decode cX11_digest 190 = .ok (.lload_n 1, 1) := by decide +kernel
theorem dX11_digest_191 : decode cX11_digest 191 = .ok (.ldc2_w 225, 3) := by decide +kernel
theorem dX11_digest_194 : decode cX11_digest 194 = .ok (.lmul, 1) := by decide +kernel
theorem dX11_digest_195 : decode cX11_digest 195 = .ok (.aload_n 0, 1) := by decide +kernel
theorem dX11_digest_196 : decode cX11_digest 196 = .ok (.iload_n 3, 1) := by decide +kernel
theorem dX11_digest_197 : decode cX11_digest 197 = .ok (.iload 4, 2) := by decide +kernel
theorem dX11_digest_199 : decode cX11_digest 199 = .ok (.invokevirtual 238, 3) := by decide +kernel
theorem dX11_digest_202 : decode cX11_digest 202 = .ok (.i2l, 1) := by decide +kernel
theorem dX11_digest_203 : decode cX11_digest 203 = .ok (.ladd, 1) := by decide +kernel
theorem dX11_digest_204 : decode cX11_digest 204 = .ok (.lstore_n 1, 1) := by decide +kernel
theorem dX11_digest_205 : decode cX11_digest 205 = .ok (.iinc 4 1, 3) := by decide +kernel
theorem dX11_digest_208 : decode cX11_digest 208 = .ok (.goto (-25), 3) := by decide +kernel
theorem dX11_digest_211 : decode cX11_digest 211 = .ok (.iinc 3 1, 3) := by decide +kernel
theorem dX11_digest_214 : decode cX11_digest 214 = .ok (.goto (-45), 3) := by decide +kernel
theorem dX11_digest_217 : decode cX11_digest 217 = .ok (.aload_n 0, 1) := by decide +kernel
theorem dX11_digest_218 : decode cX11_digest 218 = .ok (.getfield 19, 3) := by decide +kernel
theorem dX11_digest_221 : decode cX11_digest 221 = .ok (.invokevirtual 197, 3) := by decide +kernel
theorem dX11_digest_224 : decode cX11_digest 224 = .ok (.pop, 1) := by decide +kernel
theorem dX11_digest_225 : decode cX11_digest 225 = .ok (.iconst 0, 1) := by decide +kernel
theorem dX11_digest_226 : decode cX11_digest 226 = .ok (.istore_n 3, 1) := by decide +kernel
theorem dX11_digest_227 : decode cX11_digest 227 = .ok (.iload_n 3, 1) := by decide +kernel
theorem dX11_digest_228 : decode cX11_digest 228 = .ok (.aload_n 0, 1) := by decide +kernel
theorem dX11_digest_229 : decode cX11_digest 229 = .ok (.getfield 19, 3) := by decide +kernel
theorem dX11_digest_232 : decode cX11_digest 232 = .ok (.getfield 71, 3) := by decide +kernel
theorem dX11_digest_235 : decode cX11_digest 235 = .ok (.if_icmp .ge 26, 3) := by decide +kernel
theorem dX11_digest_238 : decode cX11_digest 238 = .ok (.lload_n 1, 1) := by decide +kernel
theorem dX11_digest_239 : decode cX11_digest 239 = .ok (.ldc2_w 225, 3) := by decide +kernel
theorem dX11_digest_242 : decode cX11_digest 242 = .ok (.lmul, 1) := by decide +kernel
theorem dX11_digest_243 : decode cX11_digest 243 = .ok (.aload_n 0, 1) := by decide +kernel
theorem dX11_digest_244 : decode cX11_digest 244 = .ok (.getfield 19, 3) := by decide +kernel
theorem dX11_digest_247 : decode cX11_digest 247 = .ok (.getfield 200, 3) := by decide +kernel
theorem dX11_digest_250 : decode cX11_digest 250 = .ok (.iload_n 3, 1) := by decide +kernel
theorem dX11_digest_251 : decode cX11_digest 251 = .ok (.iaload, 1) := by decide +kernel
theorem dX11_digest_252 : decode cX11_digest 252 = .ok (.i2l, 1) := by decide +kernel
theorem dX11_digest_253 : decode cX11_digest 253 = .ok (.ladd, 1) := by decide +kernel
theorem dX11_digest_254 : decode cX11_digest 254 = .ok (.lstore_n 1, 1) := by decide +kernel
theorem dX11_digest_255 : decode cX11_digest 255 = .ok (.iinc 3 1, 3) := by decide +kernel
theorem dX11_digest_258 : decode cX11_digest 258 = .ok (.goto (-31), 3) := by decide +kernel
theorem dX11_digest_261 : decode cX11_digest 261 = .ok (.lload_n 1, 1) := by decide +kernel
theorem dX11_digest_262 : decode cX11_digest 262 = .ok (.lreturn, 1) := by decide +kernel
set_option maxRecDepth 20000 in
theorem ggX11_digest_X11_pact : GoodIn wsX11_digest wsX11_pact := goodIn_ca (goodIn_2 24 (goodIn_r _ [91, 13, 14, 3, 6, 92, 93, 94, 95, 96, 97, 98, 99, 100, 101, 102, 103, 104, 113, 114, 115, 116, 117, 118] (by decide +kernel) (by decide +kernel)) (goodIn_r _ [119, 120, 121, 122, 123, 124, 125, 126, 127, 128, 129, 130, 131, 132, 133, 155, 156, 157, 158, 159, 160, 161, 162] (by decide +kernel) (by decide +kernel))) (goodIn_sub (fun _ h => List.mem_cons_of_mem _ (List.mem_append_right _ h)) (by decide +kernel))
set_option maxRecDepth 20000 in
theorem gX11_digest_X11_pact : GoodIn wsX11_digest (wsV RX11 238 RX11 yX11_pact wsX11_pact) := goodIn_app (goodIn_of _ (by decide +kernel)) ggX11_digest_X11_pact
set_option maxRecDepth 20000 in
theorem ggX11_digest_X7_drawLots : GoodIn wsX11_digest wsX7_drawLots := goodIn_r _ [108, 109, 36, 110, 111, 112, 117, 118, 119, 120, 121, 122, 123, 124, 125, 126, 127, 128, 129, 130, 131, 132, 133] (by decide +kernel) (by decide +kernel)
set_option maxRecDepth 20000 in
theorem gX11_digest_X7_drawLots : GoodIn wsX11_digest (wsV RX11 197 RX7 yX7_drawLots wsX7_drawLots) := goodIn_app (goodIn_of _ (by decide +kernel)) ggX11_digest_X7_drawLots
set_option maxRecDepth 20000 in
theorem ggX11_digest_X11_fisher : GoodIn wsX11_digest wsX11_fisher := goodIn_ca (goodIn_2 24 (goodIn_r _ [77, 13, 14, 3, 68, 78, 79, 80, 81, 82, 83, 84, 85, 86, 87, 70, 71, 72, 11, 73, 5, 113, 114, 115] (by decide +kernel) (by decide +kernel)) (goodIn_2 24 (goodIn_r _ [116, 117, 118, 119, 120, 121, 122, 123, 124, 125, 126, 127, 128, 129, 130, 131, 132, 133, 144, 145, 146, 147, 148, 149] (by decide +kernel) (by decide +kernel)) (goodIn_r _ [150, 151, 152, 153, 154] (by decide +kernel) (by decide +kernel)))) (goodIn_sub (fun _ h => List.mem_cons_of_mem _ (List.mem_append_right _ h)) (by decide +kernel))
set_option maxRecDepth 20000 in
theorem gX11_digest_X11_fisher : GoodIn wsX11_digest (wsV RX11 235 RX11 yX11_fisher wsX11_fisher) := goodIn_app (goodIn_of _ (by decide +kernel)) ggX11_digest_X11_fisher
set_option maxRecDepth 20000 in
theorem ggX11_digest_X11_took : GoodIn wsX11_digest wsX11_took := goodIn_ca (goodIn_2 24 (goodIn_r _ [67, 3, 68, 69, 59, 60, 61, 11, 62, 13, 14, 4, 70, 71, 72, 73, 5, 113, 114, 115, 116, 117, 118, 119] (by decide +kernel) (by decide +kernel)) (goodIn_2 24 (goodIn_r _ [120, 121, 122, 123, 124, 125, 126, 127, 128, 129, 130, 131, 132, 133, 144, 145, 146, 147, 148, 149, 150, 151, 152, 153] (by decide +kernel) (by decide +kernel)) (goodIn_r _ [154] (by decide +kernel) (by decide +kernel)))) (goodIn_sub (fun _ h => List.mem_cons_of_mem _ (List.mem_append_right _ h)) (by decide +kernel))
set_option maxRecDepth 20000 in
theorem gX11_digest_X11_took : GoodIn wsX11_digest (wsV RX11 233 RX11 yX11_took wsX11_took) := goodIn_app (goodIn_of _ (by decide +kernel)) ggX11_digest_X11_took
set_option maxRecDepth 20000 in
theorem ggX11_digest_X11_ground : GoodIn wsX11_digest wsX11_ground := goodIn_ca (goodIn_2 24 (goodIn_r _ [53, 13, 14, 3, 54, 55, 56, 57, 58, 59, 60, 61, 11, 62, 4, 63, 27, 28, 29, 30, 31, 113, 114, 115] (by decide +kernel) (by decide +kernel)) (goodIn_r _ [116, 117, 118, 119, 120, 121, 122, 123, 124, 125, 126, 127, 128, 129, 130, 131, 132, 133, 140, 141, 142, 143] (by decide +kernel) (by decide +kernel))) (goodIn_sub (fun _ h => List.mem_cons_of_mem _ (List.mem_append_right _ h)) (by decide +kernel))
set_option maxRecDepth 20000 in
theorem gX11_digest_X11_ground : GoodIn wsX11_digest (wsV RX11 230 RX11 yX11_ground wsX11_ground) := goodIn_app (goodIn_of _ (by decide +kernel)) ggX11_digest_X11_ground
set_option maxRecDepth 20000 in
theorem ggX11_digest_X11_count : GoodIn wsX11_digest wsX11_count := goodIn_ca (goodIn_2 24 (goodIn_r _ [12, 13, 14, 3, 15, 4, 5, 16, 6, 17, 18, 19, 20, 21, 22, 23, 24, 25, 26, 27, 28, 29, 30, 31] (by decide +kernel) (by decide +kernel)) (goodIn_2 24 (goodIn_r _ [32, 33, 34, 35, 36, 37, 38, 39, 40, 41, 42, 43, 44, 45, 46, 47, 48, 49, 113, 114, 115, 116, 117, 118] (by decide +kernel) (by decide +kernel)) (goodIn_2 24 (goodIn_r _ [119, 120, 121, 122, 123, 124, 125, 126, 127, 128, 129, 130, 131, 132, 133, 134, 135, 136, 137, 138, 139, 140, 141, 142] (by decide +kernel) (by decide +kernel)) (goodIn_r _ [143, 144, 145, 146, 147, 148, 149, 150, 151, 152, 153, 154] (by decide +kernel) (by decide +kernel))))) (goodIn_sub (fun _ h => List.mem_cons_of_mem _ (List.mem_append_right _ h)) (by decide +kernel))
set_option maxRecDepth 20000 in
theorem gX11_digest_X11_count : GoodIn wsX11_digest (wsV RX11 227 RX11 yX11_count wsX11_count) := goodIn_app (goodIn_of _ (by decide +kernel)) ggX11_digest_X11_count
theorem k_X11_digest_f19 : Cond.fieldLink RX11 19 "TideLots" "shore" "LTideLots$Shore;" ∈ wsX11_digest := by decide +kernel
theorem i_X11_digest_X11 : ∀ w ∈ u_ws RX11 TX11 4, w ∈ wsX11_digest := by decide +kernel
theorem k_X11_digest_f71 : Cond.fieldLink RX11 71 "TideLots$Shore" "fisherCount" "I" ∈ wsX11_digest := by decide +kernel
theorem i_X11_digest_X7 : ∀ w ∈ u_ws RX7 TX7 17, w ∈ wsX11_digest := by decide +kernel
theorem k_X11_digest_c225 : Jvm.Cond.constantLong RX11 225 (31) ∈ wsX11_digest := by decide +kernel
theorem k_X11_digest_f200 : Cond.fieldLink RX11 200 "TideLots$Shore" "lots" "[I" ∈ wsX11_digest := by decide +kernel
theorem k_X11_digest_f77 : Cond.fieldLink RX11 77 "TideLots$Shore" "pactCount" "I" ∈ wsX11_digest := by decide +kernel
theorem k_X11_digest_f68 : Cond.fieldLink RX11 68 "TideLots$Shore" "groundCount" "I" ∈ wsX11_digest := by decide +kernel
theorem k_X11_digest_c223 : Jvm.Cond.constantLong RX11 223 (739) ∈ wsX11_digest := by decide +kernel
abbrev rX11_digest : Room := { frames := 3, cells := 0, slots := 0, locals := 65 }
noncomputable def bb_X11_digest_227 (M : gMem) (x0 : Nat) (x1 : Int64) (x3 : Int32) : Option ((gMem × Int64 × Int32) ⊕ (Int64 × gMem)) :=
  ck (mT M x0 = 10) <| dr ((mR M x0 1)) fun a2 => ck (mT M a2 = 7) <| (if (mI M a2 3) ≤ x3 then oI (some (x1, M)) else dr ((mR M a2 11)) fun a5 => ck (mT M a5 = 20) <| ck (inb x3 (mL M a5)) <| some (.inl (M, ((x1 * (31 : Int64)) + (Int32.toInt64 (mI M a5 x3.toNatClampNeg))), (x3 + (1 : Int32)))))
noncomputable def lp_X11_digest_227 (M : gMem) (x0 : Nat) (x1 : Int64) (x3 : Int32) : Option (Int64 × gMem) :=
  lp (fun (q : gMem × Int64 × Int32) => bb_X11_digest_227 q.1 x0 q.2.1 q.2.2) (M, x1, x3)
noncomputable def bb_X11_digest_183 (M : gMem) (x0 : Nat) (x1 : Int64) (x3 : Int32) (x4 : Int32) : Option ((gMem × Int64 × Int32) ⊕ ((gMem × Int64 × Int32) ⊕ (Int64 × gMem))) :=
  (if (6 : Int32) < x4 then oI (some (.inl (M, x1, (x3 + (1 : Int32))))) else ck (mT M x0 = 10) <| bd (f_X11_pact_n M x0 x3 x4) fun r9 M9 => some (.inl (M9, ((x1 * (31 : Int64)) + (Int32.toInt64 r9)), (x4 + (1 : Int32)))))
noncomputable def lp_X11_digest_183 (M : gMem) (x0 : Nat) (x1 : Int64) (x3 : Int32) (x4 : Int32) : Option ((gMem × Int64 × Int32) ⊕ (Int64 × gMem)) :=
  lp (fun (q : gMem × Int64 × Int32) => bb_X11_digest_183 q.1 x0 q.2.1 x3 q.2.2) (M, x1, x4)
noncomputable def bb_X11_digest_169 (M : gMem) (x0 : Nat) (x1 : Int64) (x3 : Int32) : Option ((gMem × Int64 × Int32) ⊕ (Int64 × gMem)) :=
  ck (mT M x0 = 10) <| dr ((mR M x0 1)) fun a12 => ck (mT M a12 = 7) <| (if (mI M a12 5) ≤ x3 then bd (f_X7_drawLots M a12) fun r14 M14 => oI (lp_X11_digest_227 M14 x0 x1 ((0 : Int32))) else lp_X11_digest_183 M x0 x1 x3 ((0 : Int32)))
noncomputable def lp_X11_digest_169 (M : gMem) (x0 : Nat) (x1 : Int64) (x3 : Int32) : Option (Int64 × gMem) :=
  lp (fun (q : gMem × Int64 × Int32) => bb_X11_digest_169 q.1 x0 q.2.1 q.2.2) (M, x1, x3)
noncomputable def bb_X11_digest_133 (M : gMem) (x0 : Nat) (x1 : Int64) (x3 : Int32) (x4 : Int32) : Option ((gMem × Int64 × Int32) ⊕ ((gMem × Int64 × Int32) ⊕ (Int64 × gMem))) :=
  (if (9 : Int32) < x4 then oI (some (.inl (M, x1, (x3 + (1 : Int32))))) else ck (mT M x0 = 10) <| bd (f_X11_fisher_n M x0 x3 x4) fun r17 M17 => some (.inl (M17, ((x1 * (31 : Int64)) + (Int32.toInt64 r17)), (x4 + (1 : Int32)))))
noncomputable def lp_X11_digest_133 (M : gMem) (x0 : Nat) (x1 : Int64) (x3 : Int32) (x4 : Int32) : Option ((gMem × Int64 × Int32) ⊕ (Int64 × gMem)) :=
  lp (fun (q : gMem × Int64 × Int32) => bb_X11_digest_133 q.1 x0 q.2.1 x3 q.2.2) (M, x1, x4)
noncomputable def bb_X11_digest_119 (M : gMem) (x0 : Nat) (x1 : Int64) (x3 : Int32) : Option ((gMem × Int64 × Int32) ⊕ (Int64 × gMem)) :=
  ck (mT M x0 = 10) <| dr ((mR M x0 1)) fun a20 => ck (mT M a20 = 7) <| (if (mI M a20 3) ≤ x3 then oI (lp_X11_digest_169 M x0 x1 ((0 : Int32))) else lp_X11_digest_133 M x0 x1 x3 ((0 : Int32)))
noncomputable def lp_X11_digest_119 (M : gMem) (x0 : Nat) (x1 : Int64) (x3 : Int32) : Option (Int64 × gMem) :=
  lp (fun (q : gMem × Int64 × Int32) => bb_X11_digest_119 q.1 x0 q.2.1 q.2.2) (M, x1, x3)
noncomputable def bb_X11_digest_78 (M : gMem) (x0 : Nat) (x1 : Int64) (x3 : Int32) (x4 : Int32) : Option ((gMem × Int64 × Int32) ⊕ ((gMem × Int64 × Int32) ⊕ (Int64 × gMem))) :=
  ck (mT M x0 = 10) <| dr ((mR M x0 1)) fun a24 => ck (mT M a24 = 7) <| (if (mI M a24 3) ≤ x4 then oI (some (.inl (M, x1, (x3 + (1 : Int32))))) else bd (f_X11_took_n M x0 x3 x4) fun r27 M27 => some (.inl (M27, ((x1 * (31 : Int64)) + (Int32.toInt64 r27)), (x4 + (1 : Int32)))))
noncomputable def lp_X11_digest_78 (M : gMem) (x0 : Nat) (x1 : Int64) (x3 : Int32) (x4 : Int32) : Option ((gMem × Int64 × Int32) ⊕ (Int64 × gMem)) :=
  lp (fun (q : gMem × Int64 × Int32) => bb_X11_digest_78 q.1 x0 q.2.1 x3 q.2.2) (M, x1, x4)
noncomputable def bb_X11_digest_47 (M : gMem) (x0 : Nat) (x1 : Int64) (x3 : Int32) (x4 : Int32) : Option ((gMem × Int64 × Int32) ⊕ ((gMem × Int64 × Int32) ⊕ (Int64 × gMem))) :=
  (if (8 : Int32) < x4 then oI (lp_X11_digest_78 M x0 x1 x3 ((0 : Int32))) else ck (mT M x0 = 10) <| bd (f_X11_ground_n M x0 x3 x4) fun r29 M29 => some (.inl (M29, ((x1 * (31 : Int64)) + (Int32.toInt64 r29)), (x4 + (1 : Int32)))))
noncomputable def lp_X11_digest_47 (M : gMem) (x0 : Nat) (x1 : Int64) (x3 : Int32) (x4 : Int32) : Option ((gMem × Int64 × Int32) ⊕ (Int64 × gMem)) :=
  lp (fun (q : gMem × Int64 × Int32) => bb_X11_digest_47 q.1 x0 q.2.1 x3 q.2.2) (M, x1, x4)
noncomputable def bb_X11_digest_33 (M : gMem) (x0 : Nat) (x1 : Int64) (x3 : Int32) : Option ((gMem × Int64 × Int32) ⊕ (Int64 × gMem)) :=
  ck (mT M x0 = 10) <| dr ((mR M x0 1)) fun a32 => ck (mT M a32 = 7) <| (if (mI M a32 2) ≤ x3 then oI (lp_X11_digest_119 M x0 x1 ((0 : Int32))) else lp_X11_digest_47 M x0 x1 x3 ((0 : Int32)))
noncomputable def lp_X11_digest_33 (M : gMem) (x0 : Nat) (x1 : Int64) (x3 : Int32) : Option (Int64 × gMem) :=
  lp (fun (q : gMem × Int64 × Int32) => bb_X11_digest_33 q.1 x0 q.2.1 q.2.2) (M, x1, x3)
noncomputable def bb_X11_digest_6 (M : gMem) (x0 : Nat) (x1 : Int64) (x3 : Int32) : Option ((gMem × Int64 × Int32) ⊕ (Int64 × gMem)) :=
  (if (9 : Int32) < x3 then oI (lp_X11_digest_33 M x0 x1 ((0 : Int32))) else ck (mT M x0 = 10) <| bd (f_X11_count_n M x0 x3) fun r36 M36 => some (.inl (M36, ((x1 * (31 : Int64)) + (Int32.toInt64 r36)), (x3 + (1 : Int32)))))
noncomputable def lp_X11_digest_6 (M : gMem) (x0 : Nat) (x1 : Int64) (x3 : Int32) : Option (Int64 × gMem) :=
  lp (fun (q : gMem × Int64 × Int32) => bb_X11_digest_6 q.1 x0 q.2.1 q.2.2) (M, x1, x3)
noncomputable def b_X11_digest_0 (M : gMem) (x0 : Nat) : Option (Int64 × gMem) :=
  lp_X11_digest_6 M x0 ((739 : Int64)) ((0 : Int32))
noncomputable def f_X11_digest (M : gMem) (x0 : Nat) : Option (Int64 × gMem) :=
  b_X11_digest_0 M x0
set_option maxHeartbeats 4000000 in
set_option maxRecDepth 100000 in
theorem tb_X11_digest_227 (X : gX p s m args meth c D cy B (gSt Z B H0) RX11 cX11_digest wsX11_digest 5) (hr : meth.sig.returnType = (some .long)) {Q : State → Prop} : ∀ (M : gMem) (x0 : Nat) (x1 : Int64) (x3 : Int32) (z : (gMem × Int64 × Int32) ⊕ (Int64 × gMem)), bb_X11_digest_227 M x0 x1 x3 = some z → (Sum.elim (fun (q : gMem × Int64 × Int32) => gGo p l e rX11_digest s m args below meth c D cy B H0 5 0 0 Q 227 [(0, vR (some x0)), (1, vJ q.2.1), (3, vI q.2.2)] [] q.1) (fun (r : Int64 × gMem) => Q = gMQ below D cy B H0 args s 0 0 (some (vJ r.1)) r.2)) z → gGo p l e rX11_digest s m args below meth c D cy B H0 5 0 0 Q 227 [(0, vR (some x0)), (1, vJ x1), (3, vI x3)] [] M := by
  intro M x0 x1 x3 z hf hK
  unfold bb_X11_digest_227 at hf
  refine g_iload_n X dX11_digest_227 rfl rfl ?_
  refine g_aload_n X dX11_digest_228 rfl rfl ?_
  obtain ⟨hT1, hf⟩ := ck_e hf
  refine g_get (ci := 9) (v := vR (mR M x0 1)) 1 X cdX11 i_X11_digest_X11 (by decide) k_X11_digest_f19 rfl dX11_digest_229 rfl hT1 rfl ?_
  obtain ⟨a2, ha2, hf⟩ := dr_e hf
  obtain ⟨hT3, hf⟩ := ck_e hf
  refine g_get (ci := 6) (v := vI (mI M a2 3)) 3 X cdX7 i_X11_digest_X7 (by decide) k_X11_digest_f71 rfl dX11_digest_232 ha2 hT3 rfl ?_
  refine g_icmp_ge (tgt := 261) X dX11_digest_235 (by decide) (fun hc => ?_) (fun hc => ?_)
  · have hf := ife_t hc hf
    refine g_lload_n X dX11_digest_261 rfl rfl ?_
    obtain ⟨w4, hw4, hz4⟩ := oI_e hf
    subst hz4
    have hf := hw4
    cases hf
    refine g_eqQ hK ?_
    exact g_lret X hr dX11_digest_262
  · have hf := ife_f hc hf
    refine g_lload_n X dX11_digest_238 rfl rfl ?_
    refine g_ldc2 (v := (31 : Int64)) X k_X11_digest_c225 dX11_digest_239 ?_
    refine g_lmul X dX11_digest_242 ?_
    refine g_aload_n X dX11_digest_243 rfl rfl ?_
    refine g_get (ci := 9) (v := vR (mR M x0 1)) 1 X cdX11 i_X11_digest_X11 (by decide) k_X11_digest_f19 rfl dX11_digest_244 rfl hT1 rfl ?_
    refine g_get (ci := 6) (v := vR (mR M a2 11)) 11 X cdX7 i_X11_digest_X7 (by decide) k_X11_digest_f200 rfl dX11_digest_247 ha2 hT3 rfl ?_
    refine g_iload_n X dX11_digest_250 rfl rfl ?_
    obtain ⟨a5, ha5, hf⟩ := dr_e hf
    obtain ⟨hT6, hf⟩ := ck_e hf
    obtain ⟨hg7, hf⟩ := ck_e hf
    refine g_iald X dX11_digest_251 ha5 hT6 hg7 ?_
    refine g_i2l X dX11_digest_252 ?_
    refine g_ladd X dX11_digest_253 ?_
    refine g_lstore_n (lv' := [(1, vJ ((x1 * (31 : Int64)) + (Int32.toInt64 (mI M a5 x3.toNatClampNeg)))), (0, vR (some x0)), (3, vI x3)]) X dX11_digest_254 rfl (by decide) rfl ?_
    refine g_iinc (v := (1 : Int32)) (lv' := [(3, vI (x3 + (1 : Int32))), (1, vJ ((x1 * (31 : Int64)) + (Int32.toInt64 (mI M a5 x3.toNatClampNeg)))), (0, vR (some x0))]) X dX11_digest_255 rfl (by decide) (by decide) rfl ?_
    refine g_goto (tgt := 227) X dX11_digest_258 (by decide) ?_
    cases hf
    refine g_sub (lvsub_of _ _ [2, 1, 0] rfl) ?_
    exact hK
set_option maxHeartbeats 4000000 in
set_option maxRecDepth 100000 in
theorem tl_X11_digest_227 (X : gX p s m args meth c D cy B (gSt Z B H0) RX11 cX11_digest wsX11_digest 5) (hr : meth.sig.returnType = (some .long)) {Q : State → Prop} : ∀ (M : gMem) (x0 : Nat) (x1 : Int64) (x3 : Int32) (z : Int64 × gMem), lp_X11_digest_227 M x0 x1 x3 = some z → (fun (r : Int64 × gMem) => Q = gMQ below D cy B H0 args s 0 0 (some (vJ r.1)) r.2) z → gGo p l e rX11_digest s m args below meth c D cy B H0 5 0 0 Q 227 [(0, vR (some x0)), (1, vJ x1), (3, vI x3)] [] M := by
  intro M x0 x1 x3 z hf hK
  refine lp_ind (P := (fun (q : gMem × Int64 × Int32) (z : Int64 × gMem) => (fun (r : Int64 × gMem) => Q = gMQ below D cy B H0 args s 0 0 (some (vJ r.1)) r.2) z → gGo p l e rX11_digest s m args below meth c D cy B H0 5 0 0 Q 227 [(0, vR (some x0)), (1, vJ q.2.1), (3, vI q.2.2)] [] q.1)) (fun q z hq => ?_) _ _ hf hK
  intro hK
  obtain ⟨w, hw, hm⟩ := hq
  refine tb_X11_digest_227 X hr _ _ _ _ w hw ?_
  cases w with
  | inl a => exact hm hK
  | inr b => cases hm; exact hK
set_option maxHeartbeats 4000000 in
set_option maxRecDepth 100000 in
theorem tb_X11_digest_183 (X : gX p s m args meth c D cy B (gSt Z B H0) RX11 cX11_digest wsX11_digest 5) (hr : meth.sig.returnType = (some .long)) {Q : State → Prop} : ∀ (M : gMem) (x0 : Nat) (x1 : Int64) (x3 : Int32) (x4 : Int32) (z : (gMem × Int64 × Int32) ⊕ ((gMem × Int64 × Int32) ⊕ (Int64 × gMem))), bb_X11_digest_183 M x0 x1 x3 x4 = some z → (Sum.elim (fun (q : gMem × Int64 × Int32) => gGo p l e rX11_digest s m args below meth c D cy B H0 5 0 0 Q 183 [(0, vR (some x0)), (1, vJ q.2.1), (3, vI x3), (4, vI q.2.2)] [] q.1) (Sum.elim (fun (q : gMem × Int64 × Int32) => gGo p l e rX11_digest s m args below meth c D cy B H0 5 0 0 Q 169 [(0, vR (some x0)), (1, vJ q.2.1), (3, vI q.2.2)] [] q.1) (fun (r : Int64 × gMem) => Q = gMQ below D cy B H0 args s 0 0 (some (vJ r.1)) r.2))) z → gGo p l e rX11_digest s m args below meth c D cy B H0 5 0 0 Q 183 [(0, vR (some x0)), (1, vJ x1), (3, vI x3), (4, vI x4)] [] M := by
  intro M x0 x1 x3 x4 z hf hK
  unfold bb_X11_digest_183 at hf
  refine g_iload X dX11_digest_183 rfl ?_
  refine g_bipush (v := (6 : Int32)) X dX11_digest_185 (by decide) ?_
  refine g_icmp_gt (tgt := 211) X dX11_digest_187 (by decide) (fun hc => ?_) (fun hc => ?_)
  · have hf := ife_t hc hf
    refine g_iinc (v := (1 : Int32)) (lv' := [(3, vI (x3 + (1 : Int32))), (0, vR (some x0)), (1, vJ x1), (4, vI x4)]) X dX11_digest_211 rfl (by decide) (by decide) rfl ?_
    refine g_goto (tgt := 169) X dX11_digest_214 (by decide) ?_
    obtain ⟨w8, hw8, hz8⟩ := oI_e hf
    subst hz8
    have hf := hw8
    cases hf
    refine g_sub (lvsub_of _ _ [1, 2, 0] rfl) ?_
    exact hK
  · have hf := ife_f hc hf
    refine g_lload_n X dX11_digest_190 rfl rfl ?_
    refine g_ldc2 (v := (31 : Int64)) X k_X11_digest_c225 dX11_digest_191 ?_
    refine g_lmul X dX11_digest_194 ?_
    refine g_aload_n X dX11_digest_195 rfl rfl ?_
    refine g_iload_n X dX11_digest_196 rfl rfl ?_
    refine g_iload X dX11_digest_197 rfl ?_
    obtain ⟨hT10, hf⟩ := ck_e hf
    obtain ⟨r9, M9, hq9, hf⟩ := bd_e hf
    refine g_callV (ci := 9) (b := x0) (As := [vI x3, vI x4]) (st := [vJ (x1 * (31 : Int64))]) (v := some (vI r9)) (M1 := M9) X (m_X11_pact_n l hq9) (cwV 2 X.2.2.1 gX11_digest_X11_pact rfl rfl rfl (by decide +kernel) ⟨Nat.le_of_ble_eq_true rfl, Nat.le_of_ble_eq_true rfl⟩) rfl rfl rfl hT10 (by decide) rfl (Nat.le_of_ble_eq_true rfl) dX11_digest_199 ⟨by decide, by decide⟩ ?_
    refine g_i2l X dX11_digest_202 ?_
    refine g_ladd X dX11_digest_203 ?_
    refine g_lstore_n (lv' := [(1, vJ ((x1 * (31 : Int64)) + (Int32.toInt64 r9))), (0, vR (some x0)), (3, vI x3), (4, vI x4)]) X dX11_digest_204 rfl (by decide) rfl ?_
    refine g_iinc (v := (1 : Int32)) (lv' := [(4, vI (x4 + (1 : Int32))), (1, vJ ((x1 * (31 : Int64)) + (Int32.toInt64 r9))), (0, vR (some x0)), (3, vI x3)]) X dX11_digest_205 rfl (by decide) (by decide) rfl ?_
    refine g_goto (tgt := 183) X dX11_digest_208 (by decide) ?_
    cases hf
    refine g_sub (lvsub_of _ _ [2, 1, 3, 0] rfl) ?_
    exact hK
set_option maxHeartbeats 4000000 in
set_option maxRecDepth 100000 in
theorem tl_X11_digest_183 (X : gX p s m args meth c D cy B (gSt Z B H0) RX11 cX11_digest wsX11_digest 5) (hr : meth.sig.returnType = (some .long)) {Q : State → Prop} : ∀ (M : gMem) (x0 : Nat) (x1 : Int64) (x3 : Int32) (x4 : Int32) (z : (gMem × Int64 × Int32) ⊕ (Int64 × gMem)), lp_X11_digest_183 M x0 x1 x3 x4 = some z → (Sum.elim (fun (q : gMem × Int64 × Int32) => gGo p l e rX11_digest s m args below meth c D cy B H0 5 0 0 Q 169 [(0, vR (some x0)), (1, vJ q.2.1), (3, vI q.2.2)] [] q.1) (fun (r : Int64 × gMem) => Q = gMQ below D cy B H0 args s 0 0 (some (vJ r.1)) r.2)) z → gGo p l e rX11_digest s m args below meth c D cy B H0 5 0 0 Q 183 [(0, vR (some x0)), (1, vJ x1), (3, vI x3), (4, vI x4)] [] M := by
  intro M x0 x1 x3 x4 z hf hK
  refine lp_ind (P := (fun (q : gMem × Int64 × Int32) (z : (gMem × Int64 × Int32) ⊕ (Int64 × gMem)) => (Sum.elim (fun (q : gMem × Int64 × Int32) => gGo p l e rX11_digest s m args below meth c D cy B H0 5 0 0 Q 169 [(0, vR (some x0)), (1, vJ q.2.1), (3, vI q.2.2)] [] q.1) (fun (r : Int64 × gMem) => Q = gMQ below D cy B H0 args s 0 0 (some (vJ r.1)) r.2)) z → gGo p l e rX11_digest s m args below meth c D cy B H0 5 0 0 Q 183 [(0, vR (some x0)), (1, vJ q.2.1), (3, vI x3), (4, vI q.2.2)] [] q.1)) (fun q z hq => ?_) _ _ hf hK
  intro hK
  obtain ⟨w, hw, hm⟩ := hq
  refine tb_X11_digest_183 X hr _ _ _ _ _ w hw ?_
  cases w with
  | inl a => exact hm hK
  | inr b => cases hm; exact hK
set_option maxHeartbeats 4000000 in
set_option maxRecDepth 100000 in
theorem tb_X11_digest_169 (X : gX p s m args meth c D cy B (gSt Z B H0) RX11 cX11_digest wsX11_digest 5) (hr : meth.sig.returnType = (some .long)) {Q : State → Prop} : ∀ (M : gMem) (x0 : Nat) (x1 : Int64) (x3 : Int32) (z : (gMem × Int64 × Int32) ⊕ (Int64 × gMem)), bb_X11_digest_169 M x0 x1 x3 = some z → (Sum.elim (fun (q : gMem × Int64 × Int32) => gGo p l e rX11_digest s m args below meth c D cy B H0 5 0 0 Q 169 [(0, vR (some x0)), (1, vJ q.2.1), (3, vI q.2.2)] [] q.1) (fun (r : Int64 × gMem) => Q = gMQ below D cy B H0 args s 0 0 (some (vJ r.1)) r.2)) z → gGo p l e rX11_digest s m args below meth c D cy B H0 5 0 0 Q 169 [(0, vR (some x0)), (1, vJ x1), (3, vI x3)] [] M := by
  intro M x0 x1 x3 z hf hK
  unfold bb_X11_digest_169 at hf
  refine g_iload_n X dX11_digest_169 rfl rfl ?_
  refine g_aload_n X dX11_digest_170 rfl rfl ?_
  obtain ⟨hT11, hf⟩ := ck_e hf
  refine g_get (ci := 9) (v := vR (mR M x0 1)) 1 X cdX11 i_X11_digest_X11 (by decide) k_X11_digest_f19 rfl dX11_digest_171 rfl hT11 rfl ?_
  obtain ⟨a12, ha12, hf⟩ := dr_e hf
  obtain ⟨hT13, hf⟩ := ck_e hf
  refine g_get (ci := 6) (v := vI (mI M a12 5)) 5 X cdX7 i_X11_digest_X7 (by decide) k_X11_digest_f77 rfl dX11_digest_174 ha12 hT13 rfl ?_
  refine g_icmp_ge (tgt := 217) X dX11_digest_177 (by decide) (fun hc => ?_) (fun hc => ?_)
  · have hf := ife_t hc hf
    refine g_aload_n X dX11_digest_217 rfl rfl ?_
    refine g_get (ci := 9) (v := vR (mR M x0 1)) 1 X cdX11 i_X11_digest_X11 (by decide) k_X11_digest_f19 rfl dX11_digest_218 rfl hT11 rfl ?_
    obtain ⟨r14, M14, hq14, hf⟩ := bd_e hf
    refine g_callV (ci := 6) (b := a12) (As := []) (st := []) (v := some (vI r14)) (M1 := M14) X (m_X7_drawLots l hq14) (cwV 0 X.2.2.1 gX11_digest_X7_drawLots rfl rfl rfl (by decide +kernel) ⟨Nat.le_of_ble_eq_true rfl, Nat.le_of_ble_eq_true rfl⟩) rfl rfl ha12 hT13 (by decide) rfl (Nat.le_of_ble_eq_true rfl) dX11_digest_221 ⟨by decide, by decide⟩ ?_
    refine g_pop X dX11_digest_224 rfl ?_
    refine g_iconst (v := (0 : Int32)) X dX11_digest_225 (by decide) ?_
    refine g_istore_n (lv' := [(3, vI (0 : Int32)), (0, vR (some x0)), (1, vJ x1)]) X dX11_digest_226 rfl (by decide) rfl ?_
    obtain ⟨w15, hw15, hz15⟩ := oI_e hf
    subst hz15
    have hf := hw15
    refine g_sub (lvsub_of _ _ [1, 2, 0] rfl) ?_
    exact tl_X11_digest_227 X hr _ _ _ _ _ hf hK
  · have hf := ife_f hc hf
    refine g_iconst (v := (0 : Int32)) X dX11_digest_180 (by decide) ?_
    refine g_istore (lv' := [(4, vI (0 : Int32)), (0, vR (some x0)), (1, vJ x1), (3, vI x3)]) X dX11_digest_181 (by decide) rfl ?_
    refine g_sub (lvsub_of _ _ [1, 2, 3, 0] rfl) ?_
    exact tl_X11_digest_183 X hr _ _ _ _ _ _ hf hK
set_option maxHeartbeats 4000000 in
set_option maxRecDepth 100000 in
theorem tl_X11_digest_169 (X : gX p s m args meth c D cy B (gSt Z B H0) RX11 cX11_digest wsX11_digest 5) (hr : meth.sig.returnType = (some .long)) {Q : State → Prop} : ∀ (M : gMem) (x0 : Nat) (x1 : Int64) (x3 : Int32) (z : Int64 × gMem), lp_X11_digest_169 M x0 x1 x3 = some z → (fun (r : Int64 × gMem) => Q = gMQ below D cy B H0 args s 0 0 (some (vJ r.1)) r.2) z → gGo p l e rX11_digest s m args below meth c D cy B H0 5 0 0 Q 169 [(0, vR (some x0)), (1, vJ x1), (3, vI x3)] [] M := by
  intro M x0 x1 x3 z hf hK
  refine lp_ind (P := (fun (q : gMem × Int64 × Int32) (z : Int64 × gMem) => (fun (r : Int64 × gMem) => Q = gMQ below D cy B H0 args s 0 0 (some (vJ r.1)) r.2) z → gGo p l e rX11_digest s m args below meth c D cy B H0 5 0 0 Q 169 [(0, vR (some x0)), (1, vJ q.2.1), (3, vI q.2.2)] [] q.1)) (fun q z hq => ?_) _ _ hf hK
  intro hK
  obtain ⟨w, hw, hm⟩ := hq
  refine tb_X11_digest_169 X hr _ _ _ _ w hw ?_
  cases w with
  | inl a => exact hm hK
  | inr b => cases hm; exact hK
set_option maxHeartbeats 4000000 in
set_option maxRecDepth 100000 in
theorem tb_X11_digest_133 (X : gX p s m args meth c D cy B (gSt Z B H0) RX11 cX11_digest wsX11_digest 5) (hr : meth.sig.returnType = (some .long)) {Q : State → Prop} : ∀ (M : gMem) (x0 : Nat) (x1 : Int64) (x3 : Int32) (x4 : Int32) (z : (gMem × Int64 × Int32) ⊕ ((gMem × Int64 × Int32) ⊕ (Int64 × gMem))), bb_X11_digest_133 M x0 x1 x3 x4 = some z → (Sum.elim (fun (q : gMem × Int64 × Int32) => gGo p l e rX11_digest s m args below meth c D cy B H0 5 0 0 Q 133 [(0, vR (some x0)), (1, vJ q.2.1), (3, vI x3), (4, vI q.2.2)] [] q.1) (Sum.elim (fun (q : gMem × Int64 × Int32) => gGo p l e rX11_digest s m args below meth c D cy B H0 5 0 0 Q 119 [(0, vR (some x0)), (1, vJ q.2.1), (3, vI q.2.2)] [] q.1) (fun (r : Int64 × gMem) => Q = gMQ below D cy B H0 args s 0 0 (some (vJ r.1)) r.2))) z → gGo p l e rX11_digest s m args below meth c D cy B H0 5 0 0 Q 133 [(0, vR (some x0)), (1, vJ x1), (3, vI x3), (4, vI x4)] [] M := by
  intro M x0 x1 x3 x4 z hf hK
  unfold bb_X11_digest_133 at hf
  refine g_iload X dX11_digest_133 rfl ?_
  refine g_bipush (v := (9 : Int32)) X dX11_digest_135 (by decide) ?_
  refine g_icmp_gt (tgt := 161) X dX11_digest_137 (by decide) (fun hc => ?_) (fun hc => ?_)
  · have hf := ife_t hc hf
    refine g_iinc (v := (1 : Int32)) (lv' := [(3, vI (x3 + (1 : Int32))), (0, vR (some x0)), (1, vJ x1), (4, vI x4)]) X dX11_digest_161 rfl (by decide) (by decide) rfl ?_
    refine g_goto (tgt := 119) X dX11_digest_164 (by decide) ?_
    obtain ⟨w16, hw16, hz16⟩ := oI_e hf
    subst hz16
    have hf := hw16
    cases hf
    refine g_sub (lvsub_of _ _ [1, 2, 0] rfl) ?_
    exact hK
  · have hf := ife_f hc hf
    refine g_lload_n X dX11_digest_140 rfl rfl ?_
    refine g_ldc2 (v := (31 : Int64)) X k_X11_digest_c225 dX11_digest_141 ?_
    refine g_lmul X dX11_digest_144 ?_
    refine g_aload_n X dX11_digest_145 rfl rfl ?_
    refine g_iload_n X dX11_digest_146 rfl rfl ?_
    refine g_iload X dX11_digest_147 rfl ?_
    obtain ⟨hT18, hf⟩ := ck_e hf
    obtain ⟨r17, M17, hq17, hf⟩ := bd_e hf
    refine g_callV (ci := 9) (b := x0) (As := [vI x3, vI x4]) (st := [vJ (x1 * (31 : Int64))]) (v := some (vI r17)) (M1 := M17) X (m_X11_fisher_n l hq17) (cwV 2 X.2.2.1 gX11_digest_X11_fisher rfl rfl rfl (by decide +kernel) ⟨Nat.le_of_ble_eq_true rfl, Nat.le_of_ble_eq_true rfl⟩) rfl rfl rfl hT18 (by decide) rfl (Nat.le_of_ble_eq_true rfl) dX11_digest_149 ⟨by decide, by decide⟩ ?_
    refine g_i2l X dX11_digest_152 ?_
    refine g_ladd X dX11_digest_153 ?_
    refine g_lstore_n (lv' := [(1, vJ ((x1 * (31 : Int64)) + (Int32.toInt64 r17))), (0, vR (some x0)), (3, vI x3), (4, vI x4)]) X dX11_digest_154 rfl (by decide) rfl ?_
    refine g_iinc (v := (1 : Int32)) (lv' := [(4, vI (x4 + (1 : Int32))), (1, vJ ((x1 * (31 : Int64)) + (Int32.toInt64 r17))), (0, vR (some x0)), (3, vI x3)]) X dX11_digest_155 rfl (by decide) (by decide) rfl ?_
    refine g_goto (tgt := 133) X dX11_digest_158 (by decide) ?_
    cases hf
    refine g_sub (lvsub_of _ _ [2, 1, 3, 0] rfl) ?_
    exact hK
set_option maxHeartbeats 4000000 in
set_option maxRecDepth 100000 in
theorem tl_X11_digest_133 (X : gX p s m args meth c D cy B (gSt Z B H0) RX11 cX11_digest wsX11_digest 5) (hr : meth.sig.returnType = (some .long)) {Q : State → Prop} : ∀ (M : gMem) (x0 : Nat) (x1 : Int64) (x3 : Int32) (x4 : Int32) (z : (gMem × Int64 × Int32) ⊕ (Int64 × gMem)), lp_X11_digest_133 M x0 x1 x3 x4 = some z → (Sum.elim (fun (q : gMem × Int64 × Int32) => gGo p l e rX11_digest s m args below meth c D cy B H0 5 0 0 Q 119 [(0, vR (some x0)), (1, vJ q.2.1), (3, vI q.2.2)] [] q.1) (fun (r : Int64 × gMem) => Q = gMQ below D cy B H0 args s 0 0 (some (vJ r.1)) r.2)) z → gGo p l e rX11_digest s m args below meth c D cy B H0 5 0 0 Q 133 [(0, vR (some x0)), (1, vJ x1), (3, vI x3), (4, vI x4)] [] M := by
  intro M x0 x1 x3 x4 z hf hK
  refine lp_ind (P := (fun (q : gMem × Int64 × Int32) (z : (gMem × Int64 × Int32) ⊕ (Int64 × gMem)) => (Sum.elim (fun (q : gMem × Int64 × Int32) => gGo p l e rX11_digest s m args below meth c D cy B H0 5 0 0 Q 119 [(0, vR (some x0)), (1, vJ q.2.1), (3, vI q.2.2)] [] q.1) (fun (r : Int64 × gMem) => Q = gMQ below D cy B H0 args s 0 0 (some (vJ r.1)) r.2)) z → gGo p l e rX11_digest s m args below meth c D cy B H0 5 0 0 Q 133 [(0, vR (some x0)), (1, vJ q.2.1), (3, vI x3), (4, vI q.2.2)] [] q.1)) (fun q z hq => ?_) _ _ hf hK
  intro hK
  obtain ⟨w, hw, hm⟩ := hq
  refine tb_X11_digest_133 X hr _ _ _ _ _ w hw ?_
  cases w with
  | inl a => exact hm hK
  | inr b => cases hm; exact hK
set_option maxHeartbeats 4000000 in
set_option maxRecDepth 100000 in
theorem tb_X11_digest_119 (X : gX p s m args meth c D cy B (gSt Z B H0) RX11 cX11_digest wsX11_digest 5) (hr : meth.sig.returnType = (some .long)) {Q : State → Prop} : ∀ (M : gMem) (x0 : Nat) (x1 : Int64) (x3 : Int32) (z : (gMem × Int64 × Int32) ⊕ (Int64 × gMem)), bb_X11_digest_119 M x0 x1 x3 = some z → (Sum.elim (fun (q : gMem × Int64 × Int32) => gGo p l e rX11_digest s m args below meth c D cy B H0 5 0 0 Q 119 [(0, vR (some x0)), (1, vJ q.2.1), (3, vI q.2.2)] [] q.1) (fun (r : Int64 × gMem) => Q = gMQ below D cy B H0 args s 0 0 (some (vJ r.1)) r.2)) z → gGo p l e rX11_digest s m args below meth c D cy B H0 5 0 0 Q 119 [(0, vR (some x0)), (1, vJ x1), (3, vI x3)] [] M := by
  intro M x0 x1 x3 z hf hK
  unfold bb_X11_digest_119 at hf
  refine g_iload_n X dX11_digest_119 rfl rfl ?_
  refine g_aload_n X dX11_digest_120 rfl rfl ?_
  obtain ⟨hT19, hf⟩ := ck_e hf
  refine g_get (ci := 9) (v := vR (mR M x0 1)) 1 X cdX11 i_X11_digest_X11 (by decide) k_X11_digest_f19 rfl dX11_digest_121 rfl hT19 rfl ?_
  obtain ⟨a20, ha20, hf⟩ := dr_e hf
  obtain ⟨hT21, hf⟩ := ck_e hf
  refine g_get (ci := 6) (v := vI (mI M a20 3)) 3 X cdX7 i_X11_digest_X7 (by decide) k_X11_digest_f71 rfl dX11_digest_124 ha20 hT21 rfl ?_
  refine g_icmp_ge (tgt := 167) X dX11_digest_127 (by decide) (fun hc => ?_) (fun hc => ?_)
  · have hf := ife_t hc hf
    refine g_iconst (v := (0 : Int32)) X dX11_digest_167 (by decide) ?_
    refine g_istore_n (lv' := [(3, vI (0 : Int32)), (0, vR (some x0)), (1, vJ x1)]) X dX11_digest_168 rfl (by decide) rfl ?_
    obtain ⟨w22, hw22, hz22⟩ := oI_e hf
    subst hz22
    have hf := hw22
    refine g_sub (lvsub_of _ _ [1, 2, 0] rfl) ?_
    exact tl_X11_digest_169 X hr _ _ _ _ _ hf hK
  · have hf := ife_f hc hf
    refine g_iconst (v := (0 : Int32)) X dX11_digest_130 (by decide) ?_
    refine g_istore (lv' := [(4, vI (0 : Int32)), (0, vR (some x0)), (1, vJ x1), (3, vI x3)]) X dX11_digest_131 (by decide) rfl ?_
    refine g_sub (lvsub_of _ _ [1, 2, 3, 0] rfl) ?_
    exact tl_X11_digest_133 X hr _ _ _ _ _ _ hf hK
set_option maxHeartbeats 4000000 in
set_option maxRecDepth 100000 in
theorem tl_X11_digest_119 (X : gX p s m args meth c D cy B (gSt Z B H0) RX11 cX11_digest wsX11_digest 5) (hr : meth.sig.returnType = (some .long)) {Q : State → Prop} : ∀ (M : gMem) (x0 : Nat) (x1 : Int64) (x3 : Int32) (z : Int64 × gMem), lp_X11_digest_119 M x0 x1 x3 = some z → (fun (r : Int64 × gMem) => Q = gMQ below D cy B H0 args s 0 0 (some (vJ r.1)) r.2) z → gGo p l e rX11_digest s m args below meth c D cy B H0 5 0 0 Q 119 [(0, vR (some x0)), (1, vJ x1), (3, vI x3)] [] M := by
  intro M x0 x1 x3 z hf hK
  refine lp_ind (P := (fun (q : gMem × Int64 × Int32) (z : Int64 × gMem) => (fun (r : Int64 × gMem) => Q = gMQ below D cy B H0 args s 0 0 (some (vJ r.1)) r.2) z → gGo p l e rX11_digest s m args below meth c D cy B H0 5 0 0 Q 119 [(0, vR (some x0)), (1, vJ q.2.1), (3, vI q.2.2)] [] q.1)) (fun q z hq => ?_) _ _ hf hK
  intro hK
  obtain ⟨w, hw, hm⟩ := hq
  refine tb_X11_digest_119 X hr _ _ _ _ w hw ?_
  cases w with
  | inl a => exact hm hK
  | inr b => cases hm; exact hK
set_option maxHeartbeats 4000000 in
set_option maxRecDepth 100000 in
theorem tb_X11_digest_78 (X : gX p s m args meth c D cy B (gSt Z B H0) RX11 cX11_digest wsX11_digest 5) (hr : meth.sig.returnType = (some .long)) {Q : State → Prop} : ∀ (M : gMem) (x0 : Nat) (x1 : Int64) (x3 : Int32) (x4 : Int32) (z : (gMem × Int64 × Int32) ⊕ ((gMem × Int64 × Int32) ⊕ (Int64 × gMem))), bb_X11_digest_78 M x0 x1 x3 x4 = some z → (Sum.elim (fun (q : gMem × Int64 × Int32) => gGo p l e rX11_digest s m args below meth c D cy B H0 5 0 0 Q 78 [(0, vR (some x0)), (1, vJ q.2.1), (3, vI x3), (4, vI q.2.2)] [] q.1) (Sum.elim (fun (q : gMem × Int64 × Int32) => gGo p l e rX11_digest s m args below meth c D cy B H0 5 0 0 Q 33 [(0, vR (some x0)), (1, vJ q.2.1), (3, vI q.2.2)] [] q.1) (fun (r : Int64 × gMem) => Q = gMQ below D cy B H0 args s 0 0 (some (vJ r.1)) r.2))) z → gGo p l e rX11_digest s m args below meth c D cy B H0 5 0 0 Q 78 [(0, vR (some x0)), (1, vJ x1), (3, vI x3), (4, vI x4)] [] M := by
  intro M x0 x1 x3 x4 z hf hK
  unfold bb_X11_digest_78 at hf
  refine g_iload X dX11_digest_78 rfl ?_
  refine g_aload_n X dX11_digest_80 rfl rfl ?_
  obtain ⟨hT23, hf⟩ := ck_e hf
  refine g_get (ci := 9) (v := vR (mR M x0 1)) 1 X cdX11 i_X11_digest_X11 (by decide) k_X11_digest_f19 rfl dX11_digest_81 rfl hT23 rfl ?_
  obtain ⟨a24, ha24, hf⟩ := dr_e hf
  obtain ⟨hT25, hf⟩ := ck_e hf
  refine g_get (ci := 6) (v := vI (mI M a24 3)) 3 X cdX7 i_X11_digest_X7 (by decide) k_X11_digest_f71 rfl dX11_digest_84 ha24 hT25 rfl ?_
  refine g_icmp_ge (tgt := 111) X dX11_digest_87 (by decide) (fun hc => ?_) (fun hc => ?_)
  · have hf := ife_t hc hf
    refine g_iinc (v := (1 : Int32)) (lv' := [(3, vI (x3 + (1 : Int32))), (0, vR (some x0)), (1, vJ x1), (4, vI x4)]) X dX11_digest_111 rfl (by decide) (by decide) rfl ?_
    refine g_goto (tgt := 33) X dX11_digest_114 (by decide) ?_
    obtain ⟨w26, hw26, hz26⟩ := oI_e hf
    subst hz26
    have hf := hw26
    cases hf
    refine g_sub (lvsub_of _ _ [1, 2, 0] rfl) ?_
    exact hK
  · have hf := ife_f hc hf
    refine g_lload_n X dX11_digest_90 rfl rfl ?_
    refine g_ldc2 (v := (31 : Int64)) X k_X11_digest_c225 dX11_digest_91 ?_
    refine g_lmul X dX11_digest_94 ?_
    refine g_aload_n X dX11_digest_95 rfl rfl ?_
    refine g_iload_n X dX11_digest_96 rfl rfl ?_
    refine g_iload X dX11_digest_97 rfl ?_
    obtain ⟨r27, M27, hq27, hf⟩ := bd_e hf
    refine g_callV (ci := 9) (b := x0) (As := [vI x3, vI x4]) (st := [vJ (x1 * (31 : Int64))]) (v := some (vI r27)) (M1 := M27) X (m_X11_took_n l hq27) (cwV 2 X.2.2.1 gX11_digest_X11_took rfl rfl rfl (by decide +kernel) ⟨Nat.le_of_ble_eq_true rfl, Nat.le_of_ble_eq_true rfl⟩) rfl rfl rfl hT23 (by decide) rfl (Nat.le_of_ble_eq_true rfl) dX11_digest_99 ⟨by decide, by decide⟩ ?_
    refine g_i2l X dX11_digest_102 ?_
    refine g_ladd X dX11_digest_103 ?_
    refine g_lstore_n (lv' := [(1, vJ ((x1 * (31 : Int64)) + (Int32.toInt64 r27))), (0, vR (some x0)), (3, vI x3), (4, vI x4)]) X dX11_digest_104 rfl (by decide) rfl ?_
    refine g_iinc (v := (1 : Int32)) (lv' := [(4, vI (x4 + (1 : Int32))), (1, vJ ((x1 * (31 : Int64)) + (Int32.toInt64 r27))), (0, vR (some x0)), (3, vI x3)]) X dX11_digest_105 rfl (by decide) (by decide) rfl ?_
    refine g_goto (tgt := 78) X dX11_digest_108 (by decide) ?_
    cases hf
    refine g_sub (lvsub_of _ _ [2, 1, 3, 0] rfl) ?_
    exact hK
set_option maxHeartbeats 4000000 in
set_option maxRecDepth 100000 in
theorem tl_X11_digest_78 (X : gX p s m args meth c D cy B (gSt Z B H0) RX11 cX11_digest wsX11_digest 5) (hr : meth.sig.returnType = (some .long)) {Q : State → Prop} : ∀ (M : gMem) (x0 : Nat) (x1 : Int64) (x3 : Int32) (x4 : Int32) (z : (gMem × Int64 × Int32) ⊕ (Int64 × gMem)), lp_X11_digest_78 M x0 x1 x3 x4 = some z → (Sum.elim (fun (q : gMem × Int64 × Int32) => gGo p l e rX11_digest s m args below meth c D cy B H0 5 0 0 Q 33 [(0, vR (some x0)), (1, vJ q.2.1), (3, vI q.2.2)] [] q.1) (fun (r : Int64 × gMem) => Q = gMQ below D cy B H0 args s 0 0 (some (vJ r.1)) r.2)) z → gGo p l e rX11_digest s m args below meth c D cy B H0 5 0 0 Q 78 [(0, vR (some x0)), (1, vJ x1), (3, vI x3), (4, vI x4)] [] M := by
  intro M x0 x1 x3 x4 z hf hK
  refine lp_ind (P := (fun (q : gMem × Int64 × Int32) (z : (gMem × Int64 × Int32) ⊕ (Int64 × gMem)) => (Sum.elim (fun (q : gMem × Int64 × Int32) => gGo p l e rX11_digest s m args below meth c D cy B H0 5 0 0 Q 33 [(0, vR (some x0)), (1, vJ q.2.1), (3, vI q.2.2)] [] q.1) (fun (r : Int64 × gMem) => Q = gMQ below D cy B H0 args s 0 0 (some (vJ r.1)) r.2)) z → gGo p l e rX11_digest s m args below meth c D cy B H0 5 0 0 Q 78 [(0, vR (some x0)), (1, vJ q.2.1), (3, vI x3), (4, vI q.2.2)] [] q.1)) (fun q z hq => ?_) _ _ hf hK
  intro hK
  obtain ⟨w, hw, hm⟩ := hq
  refine tb_X11_digest_78 X hr _ _ _ _ _ w hw ?_
  cases w with
  | inl a => exact hm hK
  | inr b => cases hm; exact hK
set_option maxHeartbeats 4000000 in
set_option maxRecDepth 100000 in
theorem tb_X11_digest_47 (X : gX p s m args meth c D cy B (gSt Z B H0) RX11 cX11_digest wsX11_digest 5) (hr : meth.sig.returnType = (some .long)) {Q : State → Prop} : ∀ (M : gMem) (x0 : Nat) (x1 : Int64) (x3 : Int32) (x4 : Int32) (z : (gMem × Int64 × Int32) ⊕ ((gMem × Int64 × Int32) ⊕ (Int64 × gMem))), bb_X11_digest_47 M x0 x1 x3 x4 = some z → (Sum.elim (fun (q : gMem × Int64 × Int32) => gGo p l e rX11_digest s m args below meth c D cy B H0 5 0 0 Q 47 [(0, vR (some x0)), (1, vJ q.2.1), (3, vI x3), (4, vI q.2.2)] [] q.1) (Sum.elim (fun (q : gMem × Int64 × Int32) => gGo p l e rX11_digest s m args below meth c D cy B H0 5 0 0 Q 33 [(0, vR (some x0)), (1, vJ q.2.1), (3, vI q.2.2)] [] q.1) (fun (r : Int64 × gMem) => Q = gMQ below D cy B H0 args s 0 0 (some (vJ r.1)) r.2))) z → gGo p l e rX11_digest s m args below meth c D cy B H0 5 0 0 Q 47 [(0, vR (some x0)), (1, vJ x1), (3, vI x3), (4, vI x4)] [] M := by
  intro M x0 x1 x3 x4 z hf hK
  unfold bb_X11_digest_47 at hf
  refine g_iload X dX11_digest_47 rfl ?_
  refine g_bipush (v := (8 : Int32)) X dX11_digest_49 (by decide) ?_
  refine g_icmp_gt (tgt := 75) X dX11_digest_51 (by decide) (fun hc => ?_) (fun hc => ?_)
  · have hf := ife_t hc hf
    refine g_iconst (v := (0 : Int32)) X dX11_digest_75 (by decide) ?_
    refine g_istore (lv' := [(4, vI (0 : Int32)), (0, vR (some x0)), (1, vJ x1), (3, vI x3)]) X dX11_digest_76 (by decide) rfl ?_
    obtain ⟨w28, hw28, hz28⟩ := oI_e hf
    subst hz28
    have hf := hw28
    refine g_sub (lvsub_of _ _ [1, 2, 3, 0] rfl) ?_
    exact tl_X11_digest_78 X hr _ _ _ _ _ _ hf hK
  · have hf := ife_f hc hf
    refine g_lload_n X dX11_digest_54 rfl rfl ?_
    refine g_ldc2 (v := (31 : Int64)) X k_X11_digest_c225 dX11_digest_55 ?_
    refine g_lmul X dX11_digest_58 ?_
    refine g_aload_n X dX11_digest_59 rfl rfl ?_
    refine g_iload_n X dX11_digest_60 rfl rfl ?_
    refine g_iload X dX11_digest_61 rfl ?_
    obtain ⟨hT30, hf⟩ := ck_e hf
    obtain ⟨r29, M29, hq29, hf⟩ := bd_e hf
    refine g_callV (ci := 9) (b := x0) (As := [vI x3, vI x4]) (st := [vJ (x1 * (31 : Int64))]) (v := some (vI r29)) (M1 := M29) X (m_X11_ground_n l hq29) (cwV 2 X.2.2.1 gX11_digest_X11_ground rfl rfl rfl (by decide +kernel) ⟨Nat.le_of_ble_eq_true rfl, Nat.le_of_ble_eq_true rfl⟩) rfl rfl rfl hT30 (by decide) rfl (Nat.le_of_ble_eq_true rfl) dX11_digest_63 ⟨by decide, by decide⟩ ?_
    refine g_i2l X dX11_digest_66 ?_
    refine g_ladd X dX11_digest_67 ?_
    refine g_lstore_n (lv' := [(1, vJ ((x1 * (31 : Int64)) + (Int32.toInt64 r29))), (0, vR (some x0)), (3, vI x3), (4, vI x4)]) X dX11_digest_68 rfl (by decide) rfl ?_
    refine g_iinc (v := (1 : Int32)) (lv' := [(4, vI (x4 + (1 : Int32))), (1, vJ ((x1 * (31 : Int64)) + (Int32.toInt64 r29))), (0, vR (some x0)), (3, vI x3)]) X dX11_digest_69 rfl (by decide) (by decide) rfl ?_
    refine g_goto (tgt := 47) X dX11_digest_72 (by decide) ?_
    cases hf
    refine g_sub (lvsub_of _ _ [2, 1, 3, 0] rfl) ?_
    exact hK
set_option maxHeartbeats 4000000 in
set_option maxRecDepth 100000 in
theorem tl_X11_digest_47 (X : gX p s m args meth c D cy B (gSt Z B H0) RX11 cX11_digest wsX11_digest 5) (hr : meth.sig.returnType = (some .long)) {Q : State → Prop} : ∀ (M : gMem) (x0 : Nat) (x1 : Int64) (x3 : Int32) (x4 : Int32) (z : (gMem × Int64 × Int32) ⊕ (Int64 × gMem)), lp_X11_digest_47 M x0 x1 x3 x4 = some z → (Sum.elim (fun (q : gMem × Int64 × Int32) => gGo p l e rX11_digest s m args below meth c D cy B H0 5 0 0 Q 33 [(0, vR (some x0)), (1, vJ q.2.1), (3, vI q.2.2)] [] q.1) (fun (r : Int64 × gMem) => Q = gMQ below D cy B H0 args s 0 0 (some (vJ r.1)) r.2)) z → gGo p l e rX11_digest s m args below meth c D cy B H0 5 0 0 Q 47 [(0, vR (some x0)), (1, vJ x1), (3, vI x3), (4, vI x4)] [] M := by
  intro M x0 x1 x3 x4 z hf hK
  refine lp_ind (P := (fun (q : gMem × Int64 × Int32) (z : (gMem × Int64 × Int32) ⊕ (Int64 × gMem)) => (Sum.elim (fun (q : gMem × Int64 × Int32) => gGo p l e rX11_digest s m args below meth c D cy B H0 5 0 0 Q 33 [(0, vR (some x0)), (1, vJ q.2.1), (3, vI q.2.2)] [] q.1) (fun (r : Int64 × gMem) => Q = gMQ below D cy B H0 args s 0 0 (some (vJ r.1)) r.2)) z → gGo p l e rX11_digest s m args below meth c D cy B H0 5 0 0 Q 47 [(0, vR (some x0)), (1, vJ q.2.1), (3, vI x3), (4, vI q.2.2)] [] q.1)) (fun q z hq => ?_) _ _ hf hK
  intro hK
  obtain ⟨w, hw, hm⟩ := hq
  refine tb_X11_digest_47 X hr _ _ _ _ _ w hw ?_
  cases w with
  | inl a => exact hm hK
  | inr b => cases hm; exact hK
set_option maxHeartbeats 4000000 in
set_option maxRecDepth 100000 in
theorem tb_X11_digest_33 (X : gX p s m args meth c D cy B (gSt Z B H0) RX11 cX11_digest wsX11_digest 5) (hr : meth.sig.returnType = (some .long)) {Q : State → Prop} : ∀ (M : gMem) (x0 : Nat) (x1 : Int64) (x3 : Int32) (z : (gMem × Int64 × Int32) ⊕ (Int64 × gMem)), bb_X11_digest_33 M x0 x1 x3 = some z → (Sum.elim (fun (q : gMem × Int64 × Int32) => gGo p l e rX11_digest s m args below meth c D cy B H0 5 0 0 Q 33 [(0, vR (some x0)), (1, vJ q.2.1), (3, vI q.2.2)] [] q.1) (fun (r : Int64 × gMem) => Q = gMQ below D cy B H0 args s 0 0 (some (vJ r.1)) r.2)) z → gGo p l e rX11_digest s m args below meth c D cy B H0 5 0 0 Q 33 [(0, vR (some x0)), (1, vJ x1), (3, vI x3)] [] M := by
  intro M x0 x1 x3 z hf hK
  unfold bb_X11_digest_33 at hf
  refine g_iload_n X dX11_digest_33 rfl rfl ?_
  refine g_aload_n X dX11_digest_34 rfl rfl ?_
  obtain ⟨hT31, hf⟩ := ck_e hf
  refine g_get (ci := 9) (v := vR (mR M x0 1)) 1 X cdX11 i_X11_digest_X11 (by decide) k_X11_digest_f19 rfl dX11_digest_35 rfl hT31 rfl ?_
  obtain ⟨a32, ha32, hf⟩ := dr_e hf
  obtain ⟨hT33, hf⟩ := ck_e hf
  refine g_get (ci := 6) (v := vI (mI M a32 2)) 2 X cdX7 i_X11_digest_X7 (by decide) k_X11_digest_f68 rfl dX11_digest_38 ha32 hT33 rfl ?_
  refine g_icmp_ge (tgt := 117) X dX11_digest_41 (by decide) (fun hc => ?_) (fun hc => ?_)
  · have hf := ife_t hc hf
    refine g_iconst (v := (0 : Int32)) X dX11_digest_117 (by decide) ?_
    refine g_istore_n (lv' := [(3, vI (0 : Int32)), (0, vR (some x0)), (1, vJ x1)]) X dX11_digest_118 rfl (by decide) rfl ?_
    obtain ⟨w34, hw34, hz34⟩ := oI_e hf
    subst hz34
    have hf := hw34
    refine g_sub (lvsub_of _ _ [1, 2, 0] rfl) ?_
    exact tl_X11_digest_119 X hr _ _ _ _ _ hf hK
  · have hf := ife_f hc hf
    refine g_iconst (v := (0 : Int32)) X dX11_digest_44 (by decide) ?_
    refine g_istore (lv' := [(4, vI (0 : Int32)), (0, vR (some x0)), (1, vJ x1), (3, vI x3)]) X dX11_digest_45 (by decide) rfl ?_
    refine g_sub (lvsub_of _ _ [1, 2, 3, 0] rfl) ?_
    exact tl_X11_digest_47 X hr _ _ _ _ _ _ hf hK
set_option maxHeartbeats 4000000 in
set_option maxRecDepth 100000 in
theorem tl_X11_digest_33 (X : gX p s m args meth c D cy B (gSt Z B H0) RX11 cX11_digest wsX11_digest 5) (hr : meth.sig.returnType = (some .long)) {Q : State → Prop} : ∀ (M : gMem) (x0 : Nat) (x1 : Int64) (x3 : Int32) (z : Int64 × gMem), lp_X11_digest_33 M x0 x1 x3 = some z → (fun (r : Int64 × gMem) => Q = gMQ below D cy B H0 args s 0 0 (some (vJ r.1)) r.2) z → gGo p l e rX11_digest s m args below meth c D cy B H0 5 0 0 Q 33 [(0, vR (some x0)), (1, vJ x1), (3, vI x3)] [] M := by
  intro M x0 x1 x3 z hf hK
  refine lp_ind (P := (fun (q : gMem × Int64 × Int32) (z : Int64 × gMem) => (fun (r : Int64 × gMem) => Q = gMQ below D cy B H0 args s 0 0 (some (vJ r.1)) r.2) z → gGo p l e rX11_digest s m args below meth c D cy B H0 5 0 0 Q 33 [(0, vR (some x0)), (1, vJ q.2.1), (3, vI q.2.2)] [] q.1)) (fun q z hq => ?_) _ _ hf hK
  intro hK
  obtain ⟨w, hw, hm⟩ := hq
  refine tb_X11_digest_33 X hr _ _ _ _ w hw ?_
  cases w with
  | inl a => exact hm hK
  | inr b => cases hm; exact hK
set_option maxHeartbeats 4000000 in
set_option maxRecDepth 100000 in
theorem tb_X11_digest_6 (X : gX p s m args meth c D cy B (gSt Z B H0) RX11 cX11_digest wsX11_digest 5) (hr : meth.sig.returnType = (some .long)) {Q : State → Prop} : ∀ (M : gMem) (x0 : Nat) (x1 : Int64) (x3 : Int32) (z : (gMem × Int64 × Int32) ⊕ (Int64 × gMem)), bb_X11_digest_6 M x0 x1 x3 = some z → (Sum.elim (fun (q : gMem × Int64 × Int32) => gGo p l e rX11_digest s m args below meth c D cy B H0 5 0 0 Q 6 [(0, vR (some x0)), (1, vJ q.2.1), (3, vI q.2.2)] [] q.1) (fun (r : Int64 × gMem) => Q = gMQ below D cy B H0 args s 0 0 (some (vJ r.1)) r.2)) z → gGo p l e rX11_digest s m args below meth c D cy B H0 5 0 0 Q 6 [(0, vR (some x0)), (1, vJ x1), (3, vI x3)] [] M := by
  intro M x0 x1 x3 z hf hK
  unfold bb_X11_digest_6 at hf
  refine g_iload_n X dX11_digest_6 rfl rfl ?_
  refine g_bipush (v := (9 : Int32)) X dX11_digest_7 (by decide) ?_
  refine g_icmp_gt (tgt := 31) X dX11_digest_9 (by decide) (fun hc => ?_) (fun hc => ?_)
  · have hf := ife_t hc hf
    refine g_iconst (v := (0 : Int32)) X dX11_digest_31 (by decide) ?_
    refine g_istore_n (lv' := [(3, vI (0 : Int32)), (0, vR (some x0)), (1, vJ x1)]) X dX11_digest_32 rfl (by decide) rfl ?_
    obtain ⟨w35, hw35, hz35⟩ := oI_e hf
    subst hz35
    have hf := hw35
    refine g_sub (lvsub_of _ _ [1, 2, 0] rfl) ?_
    exact tl_X11_digest_33 X hr _ _ _ _ _ hf hK
  · have hf := ife_f hc hf
    refine g_lload_n X dX11_digest_12 rfl rfl ?_
    refine g_ldc2 (v := (31 : Int64)) X k_X11_digest_c225 dX11_digest_13 ?_
    refine g_lmul X dX11_digest_16 ?_
    refine g_aload_n X dX11_digest_17 rfl rfl ?_
    refine g_iload_n X dX11_digest_18 rfl rfl ?_
    obtain ⟨hT37, hf⟩ := ck_e hf
    obtain ⟨r36, M36, hq36, hf⟩ := bd_e hf
    refine g_callV (ci := 9) (b := x0) (As := [vI x3]) (st := [vJ (x1 * (31 : Int64))]) (v := some (vI r36)) (M1 := M36) X (m_X11_count_n l hq36) (cwV 1 X.2.2.1 gX11_digest_X11_count rfl rfl rfl (by decide +kernel) ⟨Nat.le_of_ble_eq_true rfl, Nat.le_of_ble_eq_true rfl⟩) rfl rfl rfl hT37 (by decide) rfl (Nat.le_of_ble_eq_true rfl) dX11_digest_19 ⟨by decide, by decide⟩ ?_
    refine g_i2l X dX11_digest_22 ?_
    refine g_ladd X dX11_digest_23 ?_
    refine g_lstore_n (lv' := [(1, vJ ((x1 * (31 : Int64)) + (Int32.toInt64 r36))), (0, vR (some x0)), (3, vI x3)]) X dX11_digest_24 rfl (by decide) rfl ?_
    refine g_iinc (v := (1 : Int32)) (lv' := [(3, vI (x3 + (1 : Int32))), (1, vJ ((x1 * (31 : Int64)) + (Int32.toInt64 r36))), (0, vR (some x0))]) X dX11_digest_25 rfl (by decide) (by decide) rfl ?_
    refine g_goto (tgt := 6) X dX11_digest_28 (by decide) ?_
    cases hf
    refine g_sub (lvsub_of _ _ [2, 1, 0] rfl) ?_
    exact hK
set_option maxHeartbeats 4000000 in
set_option maxRecDepth 100000 in
theorem tl_X11_digest_6 (X : gX p s m args meth c D cy B (gSt Z B H0) RX11 cX11_digest wsX11_digest 5) (hr : meth.sig.returnType = (some .long)) {Q : State → Prop} : ∀ (M : gMem) (x0 : Nat) (x1 : Int64) (x3 : Int32) (z : Int64 × gMem), lp_X11_digest_6 M x0 x1 x3 = some z → (fun (r : Int64 × gMem) => Q = gMQ below D cy B H0 args s 0 0 (some (vJ r.1)) r.2) z → gGo p l e rX11_digest s m args below meth c D cy B H0 5 0 0 Q 6 [(0, vR (some x0)), (1, vJ x1), (3, vI x3)] [] M := by
  intro M x0 x1 x3 z hf hK
  refine lp_ind (P := (fun (q : gMem × Int64 × Int32) (z : Int64 × gMem) => (fun (r : Int64 × gMem) => Q = gMQ below D cy B H0 args s 0 0 (some (vJ r.1)) r.2) z → gGo p l e rX11_digest s m args below meth c D cy B H0 5 0 0 Q 6 [(0, vR (some x0)), (1, vJ q.2.1), (3, vI q.2.2)] [] q.1)) (fun q z hq => ?_) _ _ hf hK
  intro hK
  obtain ⟨w, hw, hm⟩ := hq
  refine tb_X11_digest_6 X hr _ _ _ _ w hw ?_
  cases w with
  | inl a => exact hm hK
  | inr b => cases hm; exact hK
set_option maxHeartbeats 4000000 in
set_option maxRecDepth 100000 in
theorem t_X11_digest_0 (X : gX p s m args meth c D cy B (gSt Z B H0) RX11 cX11_digest wsX11_digest 5) (hr : meth.sig.returnType = (some .long)) {Q : State → Prop} : ∀ (M : gMem) (x0 : Nat) (z : Int64 × gMem), b_X11_digest_0 M x0 = some z → (fun (r : Int64 × gMem) => Q = gMQ below D cy B H0 args s 0 0 (some (vJ r.1)) r.2) z → gGo p l e rX11_digest s m args below meth c D cy B H0 5 0 0 Q 0 [(0, vR (some x0))] [] M := by
  intro M x0 z hf hK
  unfold b_X11_digest_0 at hf
  refine g_ldc2 (v := (739 : Int64)) X k_X11_digest_c223 dX11_digest_0 ?_
  refine g_lstore_n (lv' := [(1, vJ (739 : Int64)), (0, vR (some x0))]) X dX11_digest_3 rfl (by decide) rfl ?_
  refine g_iconst (v := (0 : Int32)) X dX11_digest_4 (by decide) ?_
  refine g_istore_n (lv' := [(3, vI (0 : Int32)), (1, vJ (739 : Int64)), (0, vR (some x0))]) X dX11_digest_5 rfl (by decide) rfl ?_
  refine g_sub (lvsub_of _ _ [2, 1, 0] rfl) ?_
  exact tl_X11_digest_6 X hr _ _ _ _ _ hf hK
set_option maxHeartbeats 4000000 in
set_option maxRecDepth 100000 in
theorem m_X11_digest (l : Launch) {D : va_G} {cy : Nat → ClassId} {B : Nat} {H0 : Heap} {Z : Nat → Nat} {M M1 : gMem} {x0 : Nat} {r : Int64} (hf : f_X11_digest M x0 = some (r, M1)) : Met l yX11_digest wsX11_digest rX11_digest (va_Pc (Value.ref x0 :: List.map gv []) (gPre D cy B H0 (gSt Z B H0) M)) (gQ D cy B H0 (some (vJ r)) M1) 0 0 (gA B) := by
  refine Met.ofW (cc := cX11_digest) (maxL := 5) (ret := (some .long)) (by decide) rfl ?_
  intro p e s m args below meth c s₁ Bd hml hv
  obtain ⟨rfl, hW, hKK, hFs⟩ := hv
  have X : gX p s m _ meth c D cy B (gSt Z B H0) RX11 cX11_digest wsX11_digest 5 := ⟨Bd.exec, Bd.bytes, atoms_spec (ws := wsX11_digest) Bd.pre, findClass_of_methodNamed Bd.named, hml, hKK, by rw [hW.1]; exact hW.2.1, Bd.notSynchronized, hFs⟩
  have hr := Bd.returns
  have hl := lv_entry ([.ref x0]) (n := 5) (Nat.le_of_ble_eq_true rfl)
  show W p l e rX11_digest s m _ below meth c s.heap [] 0 0 _ (entryFrame m ([.ref x0] : List Value).toArray 5)
  rw [lg_entry_eq]
  generalize (lg_sl ([.ref x0]) ++ List.replicate (5 - (lg_sl ([.ref x0])).length) Slot.unset).toArray = ls at hl ⊢
  have hl : lv_has ls 5 (List.map gq [(0, vR (some x0))]) := hl
  exact t_X11_digest_0 X hr _ _ _ hf rfl s.heap [] ls hW va_S.rf (lv_has_sub hl (lvsub_of _ _ [0] rfl))
end
