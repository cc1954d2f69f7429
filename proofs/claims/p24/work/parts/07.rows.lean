/-! Rows: an instruction each, over the judgement gGo -/
section GROW
variable {p : Program} {l : Launch} {e : Env} {R : Room} {s : State} {m : MethodId} {args : Array Value} {below : List Frame} {meth : Method} {c : Code} {D : va_G} {cy : Nat → ClassId} {B : Nat} {H0 : Heap} {Fs : State → Prop} {own : String} {cc : ByteArray} {ws : List Cond} {nL k n pc : Nat} {Q : State → Prop} {lv lv' : List (Nat × gV)} {st : List gV} {M : gMem}
theorem g_sub (hs : lvsub lv lv') (kk : gGo p l e R s m args below meth c D cy B H0 nL k n Q (pc) (lv') (st) (M)) : gGo p l e R s m args below meth c D cy B H0 nL k n Q (pc) (lv) (st) (M) := fun H locs ls hW hS hl => kk H locs ls hW hS (lv_has_sub hl hs)
theorem g_wide {k' n' : Nat} (h1 : k ≤ k') (h2 : n ≤ n') (kk : gGo p l e R s m args below meth c D cy B H0 nL (k') (n') Q (pc) (lv) (st) (M)) : gGo p l e R s m args below meth c D cy B H0 nL k n Q (pc) (lv) (st) (M) := fun H locs ls hW hS hl => W.widen h1 h2 (kk H locs ls hW hS hl)
theorem g_iload_n {q : Fin 4} {i : Nat} {x : Int32} (X : gX p s m args meth c D cy B Fs own cc ws nL) (hd : decode cc pc = .ok (.iload_n q, 1)) (hi : (q : Nat) = i) (h : lv.lookup i = some (vI x)) (kk : gGo p l e R s m args below meth c D cy B H0 nL k n Q (pc + 1) (lv) (vI x :: st) (M)) : gGo p l e R s m args below meth c D cy B H0 nL k n Q (pc) (lv) (st) (M) := fun H locs ls hW hS hl => lv_iload_n X.1 X.2.1 hd hi (lvl hl h) (kk H locs ls hW hS hl)
theorem g_iload {i : Nat} {x : Int32} (X : gX p s m args meth c D cy B Fs own cc ws nL) (hd : decode cc pc = .ok (.iload i, 2)) (h : lv.lookup i = some (vI x)) (kk : gGo p l e R s m args below meth c D cy B H0 nL k n Q (pc + 2) (lv) (vI x :: st) (M)) : gGo p l e R s m args below meth c D cy B H0 nL k n Q (pc) (lv) (st) (M) := fun H locs ls hW hS hl => lv_iload X.1 X.2.1 hd (lvl hl h) (kk H locs ls hW hS hl)
theorem g_lload_n {q : Fin 4} {i : Nat} {x : Int64} (X : gX p s m args meth c D cy B Fs own cc ws nL) (hd : decode cc pc = .ok (.lload_n q, 1)) (hi : (q : Nat) = i) (h : lv.lookup i = some (vJ x)) (kk : gGo p l e R s m args below meth c D cy B H0 nL k n Q (pc + 1) (lv) (vJ x :: st) (M)) : gGo p l e R s m args below meth c D cy B H0 nL k n Q (pc) (lv) (st) (M) := fun H locs ls hW hS hl => lv_lload_n X.1 X.2.1 hd hi (lvl hl h) (kk H locs ls hW hS hl)
theorem g_lload {i : Nat} {x : Int64} (X : gX p s m args meth c D cy B Fs own cc ws nL) (hd : decode cc pc = .ok (.lload i, 2)) (h : lv.lookup i = some (vJ x)) (kk : gGo p l e R s m args below meth c D cy B H0 nL k n Q (pc + 2) (lv) (vJ x :: st) (M)) : gGo p l e R s m args below meth c D cy B H0 nL k n Q (pc) (lv) (st) (M) := fun H locs ls hW hS hl => lv_lload X.1 X.2.1 hd (lvl hl h) (kk H locs ls hW hS hl)
theorem g_dload_n {q : Fin 4} {i : Nat} {x : UInt64} (X : gX p s m args meth c D cy B Fs own cc ws nL) (hd : decode cc pc = .ok (.dload_n q, 1)) (hi : (q : Nat) = i) (h : lv.lookup i = some (vD x)) (kk : gGo p l e R s m args below meth c D cy B H0 nL k n Q (pc + 1) (lv) (vD x :: st) (M)) : gGo p l e R s m args below meth c D cy B H0 nL k n Q (pc) (lv) (st) (M) := fun H locs ls hW hS hl => lv_dload_n X.1 X.2.1 hd hi (lvl hl h) (kk H locs ls hW hS hl)
theorem g_dload {i : Nat} {x : UInt64} (X : gX p s m args meth c D cy B Fs own cc ws nL) (hd : decode cc pc = .ok (.dload i, 2)) (h : lv.lookup i = some (vD x)) (kk : gGo p l e R s m args below meth c D cy B H0 nL k n Q (pc + 2) (lv) (vD x :: st) (M)) : gGo p l e R s m args below meth c D cy B H0 nL k n Q (pc) (lv) (st) (M) := fun H locs ls hW hS hl => lv_dload X.1 X.2.1 hd (lvl hl h) (kk H locs ls hW hS hl)
theorem g_aload_n {q : Fin 4} {i : Nat} {x : Option Nat} (X : gX p s m args meth c D cy B Fs own cc ws nL) (hd : decode cc pc = .ok (.aload_n q, 1)) (hi : (q : Nat) = i) (h : lv.lookup i = some (vR x)) (kk : gGo p l e R s m args below meth c D cy B H0 nL k n Q (pc + 1) (lv) (vR x :: st) (M)) : gGo p l e R s m args below meth c D cy B H0 nL k n Q (pc) (lv) (st) (M) := fun H locs ls hW hS hl => by
  have h1 := lvl hl h
  have h2 := kk H locs ls hW hS hl
  cases x with
  | none => exact lv_aload_nN X.1 X.2.1 hd hi h1 h2
  | some a => exact lv_aload_n X.1 X.2.1 hd hi h1 h2
theorem g_aload {i : Nat} {x : Option Nat} (X : gX p s m args meth c D cy B Fs own cc ws nL) (hd : decode cc pc = .ok (.aload i, 2)) (h : lv.lookup i = some (vR x)) (kk : gGo p l e R s m args below meth c D cy B H0 nL k n Q (pc + 2) (lv) (vR x :: st) (M)) : gGo p l e R s m args below meth c D cy B H0 nL k n Q (pc) (lv) (st) (M) := fun H locs ls hW hS hl => by
  have h1 := lvl hl h
  have h2 := kk H locs ls hW hS hl
  cases x with
  | none => exact lv_aloadN X.1 X.2.1 hd h1 h2
  | some a => exact lv_aload X.1 X.2.1 hd h1 h2
theorem g_astore_n {q : Fin 4} {i : Nat} {x : Option Nat} (X : gX p s m args meth c D cy B Fs own cc ws nL) (hd : decode cc pc = .ok (.astore_n q, 1)) (hi : (q : Nat) = i) (hn : i < nL) (h : lvs lv i (vR x) = lv') (kk : gGo p l e R s m args below meth c D cy B H0 nL k n Q (pc + 1) (lv') (st) (M)) : gGo p l e R s m args below meth c D cy B H0 nL k n Q (pc) (lv) (vR x :: st) (M) := fun H locs ls hW hS hl => by
  subst h
  cases x with
  | none => exact lv_astore_nN X.1 X.2.1 hd hi hl hn (lvs_1 (v := vR none) rfl) (fun ls' hl' => kk H locs ls' hW hS hl')
  | some a => exact lv_astore_n X.1 X.2.1 hd hi hl hn (lvs_1 (v := vR (some a)) rfl) (fun ls' hl' => kk H locs ls' hW hS hl')
theorem g_astore {i : Nat} {x : Option Nat} (X : gX p s m args meth c D cy B Fs own cc ws nL) (hd : decode cc pc = .ok (.astore i, 2)) (hn : i < nL) (h : lvs lv i (vR x) = lv') (kk : gGo p l e R s m args below meth c D cy B H0 nL k n Q (pc + 2) (lv') (st) (M)) : gGo p l e R s m args below meth c D cy B H0 nL k n Q (pc) (lv) (vR x :: st) (M) := fun H locs ls hW hS hl => by
  subst h
  cases x with
  | none => exact lv_astoreN X.1 X.2.1 hd hl hn (lvs_1 (v := vR none) rfl) (fun ls' hl' => kk H locs ls' hW hS hl')
  | some a => exact lv_astore X.1 X.2.1 hd hl hn (lvs_1 (v := vR (some a)) rfl) (fun ls' hl' => kk H locs ls' hW hS hl')
theorem g_istore_n {q : Fin 4} {i : Nat} {x : Int32} (X : gX p s m args meth c D cy B Fs own cc ws nL) (hd : decode cc pc = .ok (.istore_n q, 1)) (hi : (q : Nat) = i) (hn : i < nL) (h : lvs lv i (vI x) = lv') (kk : gGo p l e R s m args below meth c D cy B H0 nL k n Q (pc + 1) (lv') (st) (M)) : gGo p l e R s m args below meth c D cy B H0 nL k n Q (pc) (lv) (vI x :: st) (M) := fun H locs ls hW hS hl => lv_istore_n X.1 X.2.1 hd hi hl hn ((lvs_1 (v := vI x) rfl).trans (by rw [h])) (fun ls' hl' => kk H locs ls' hW hS hl')
theorem g_istore {i : Nat} {x : Int32} (X : gX p s m args meth c D cy B Fs own cc ws nL) (hd : decode cc pc = .ok (.istore i, 2)) (hn : i < nL) (h : lvs lv i (vI x) = lv') (kk : gGo p l e R s m args below meth c D cy B H0 nL k n Q (pc + 2) (lv') (st) (M)) : gGo p l e R s m args below meth c D cy B H0 nL k n Q (pc) (lv) (vI x :: st) (M) := fun H locs ls hW hS hl => lv_istore X.1 X.2.1 hd hl hn ((lvs_1 (v := vI x) rfl).trans (by rw [h])) (fun ls' hl' => kk H locs ls' hW hS hl')
theorem g_lstore_n {q : Fin 4} {i : Nat} {x : Int64} (X : gX p s m args meth c D cy B Fs own cc ws nL) (hd : decode cc pc = .ok (.lstore_n q, 1)) (hi : (q : Nat) = i) (hn : i + 1 < nL) (h : lvs lv i (vJ x) = lv') (kk : gGo p l e R s m args below meth c D cy B H0 nL k n Q (pc + 1) (lv') (st) (M)) : gGo p l e R s m args below meth c D cy B H0 nL k n Q (pc) (lv) (vJ x :: st) (M) := fun H locs ls hW hS hl => lv_lstore_n X.1 X.2.1 hd hi hl hn ((lvs_2 (v := vJ x) rfl).trans (by rw [h])) (fun ls' hl' => kk H locs ls' hW hS hl')
theorem g_lstore {i : Nat} {x : Int64} (X : gX p s m args meth c D cy B Fs own cc ws nL) (hd : decode cc pc = .ok (.lstore i, 2)) (hn : i + 1 < nL) (h : lvs lv i (vJ x) = lv') (kk : gGo p l e R s m args below meth c D cy B H0 nL k n Q (pc + 2) (lv') (st) (M)) : gGo p l e R s m args below meth c D cy B H0 nL k n Q (pc) (lv) (vJ x :: st) (M) := fun H locs ls hW hS hl => lv_lstore X.1 X.2.1 hd hl hn ((lvs_2 (v := vJ x) rfl).trans (by rw [h])) (fun ls' hl' => kk H locs ls' hW hS hl')
theorem g_dstore_n {q : Fin 4} {i : Nat} {x : UInt64} (X : gX p s m args meth c D cy B Fs own cc ws nL) (hd : decode cc pc = .ok (.dstore_n q, 1)) (hi : (q : Nat) = i) (hn : i + 1 < nL) (h : lvs lv i (vD x) = lv') (kk : gGo p l e R s m args below meth c D cy B H0 nL k n Q (pc + 1) (lv') (st) (M)) : gGo p l e R s m args below meth c D cy B H0 nL k n Q (pc) (lv) (vD x :: st) (M) := fun H locs ls hW hS hl => lv_dstore_n X.1 X.2.1 hd hi hl hn ((lvs_2 (v := vD x) rfl).trans (by rw [h])) (fun ls' hl' => kk H locs ls' hW hS hl')
theorem g_dstore {i : Nat} {x : UInt64} (X : gX p s m args meth c D cy B Fs own cc ws nL) (hd : decode cc pc = .ok (.dstore i, 2)) (hn : i + 1 < nL) (h : lvs lv i (vD x) = lv') (kk : gGo p l e R s m args below meth c D cy B H0 nL k n Q (pc + 2) (lv') (st) (M)) : gGo p l e R s m args below meth c D cy B H0 nL k n Q (pc) (lv) (vD x :: st) (M) := fun H locs ls hW hS hl => lv_dstore X.1 X.2.1 hd hl hn ((lvs_2 (v := vD x) rfl).trans (by rw [h])) (fun ls' hl' => kk H locs ls' hW hS hl')
theorem g_iinc {i : Nat} {z : Int} {x v : Int32} (X : gX p s m args meth c D cy B Fs own cc ws nL) (hd : decode cc pc = .ok (.iinc i z, 3)) (h0 : lv.lookup i = some (vI x)) (hv : Int32.ofInt z = v) (hn : i < nL) (h : lvs lv i (vI (x + v)) = lv') (kk : gGo p l e R s m args below meth c D cy B H0 nL k n Q (pc + 3) (lv') (st) (M)) : gGo p l e R s m args below meth c D cy B H0 nL k n Q (pc) (lv) (st) (M) := fun H locs ls hW hS hl => by
  obtain ⟨j, hj⟩ := lvl_pos h0
  exact lv_iinc X.1 X.2.1 hd hl hj (by rw [hv]) hn ((lvs_1 (v := vI (x + v)) rfl).trans (by rw [h])) (fun ls' hl' => kk H locs ls' hW hS hl')
theorem g_iconst {z : Int} {v : Int32} (X : gX p s m args meth c D cy B Fs own cc ws nL) (hd : decode cc pc = .ok (.iconst z, 1)) (hv : Int32.ofInt z = v) (kk : gGo p l e R s m args below meth c D cy B H0 nL k n Q (pc + 1) (lv) (vI v :: st) (M)) : gGo p l e R s m args below meth c D cy B H0 nL k n Q (pc) (lv) (st) (M) := fun H locs ls hW hS hl => lv_iconst X.1 X.2.1 hd hv (kk H locs ls hW hS hl)
theorem g_bipush {z : Int} {v : Int32} (X : gX p s m args meth c D cy B Fs own cc ws nL) (hd : decode cc pc = .ok (.bipush z, 2)) (hv : (Int8.ofInt z).toInt32 = v) (kk : gGo p l e R s m args below meth c D cy B H0 nL k n Q (pc + 2) (lv) (vI v :: st) (M)) : gGo p l e R s m args below meth c D cy B H0 nL k n Q (pc) (lv) (st) (M) := fun H locs ls hW hS hl => lv_bipush X.1 X.2.1 hd hv (kk H locs ls hW hS hl)
theorem g_sipush {z : Int} {v : Int32} (X : gX p s m args meth c D cy B Fs own cc ws nL) (hd : decode cc pc = .ok (.sipush z, 3)) (hv : (Int16.ofInt z).toInt32 = v) (kk : gGo p l e R s m args below meth c D cy B H0 nL k n Q (pc + 3) (lv) (vI v :: st) (M)) : gGo p l e R s m args below meth c D cy B H0 nL k n Q (pc) (lv) (st) (M) := fun H locs ls hW hS hl => lv_sipush X.1 X.2.1 hd hv (kk H locs ls hW hS hl)
theorem g_lconst {z : Fin 2} {v : Int64} (X : gX p s m args meth c D cy B Fs own cc ws nL) (hd : decode cc pc = .ok (.lconst z, 1)) (hv : Int64.ofNat (z : Nat) = v) (kk : gGo p l e R s m args below meth c D cy B H0 nL k n Q (pc + 1) (lv) (vJ v :: st) (M)) : gGo p l e R s m args below meth c D cy B H0 nL k n Q (pc) (lv) (st) (M) := fun H locs ls hW hS hl => lv_lconst X.1 X.2.1 hd hv (kk H locs ls hW hS hl)
theorem g_ldc {j : Nat} {v : Int32} (X : gX p s m args meth c D cy B Fs own cc ws nL) (hc : Jvm.Cond.constant own j v ∈ ws) (hd : decode cc pc = .ok (.ldc j, 2)) (kk : gGo p l e R s m args below meth c D cy B H0 nL k n Q (pc + 2) (lv) (vI v :: st) (M)) : gGo p l e R s m args below meth c D cy B H0 nL k n Q (pc) (lv) (st) (M) := fun H locs ls hW hS hl => lv_ldc X.1 X.2.1 X.2.2.2.1 (X.2.2.1 _ hc) hd (kk H locs ls hW hS hl)
theorem g_ldcw {j : Nat} {v : Int32} (X : gX p s m args meth c D cy B Fs own cc ws nL) (hc : Jvm.Cond.constant own j v ∈ ws) (hd : decode cc pc = .ok (.ldc_w j, 3)) (kk : gGo p l e R s m args below meth c D cy B H0 nL k n Q (pc + 3) (lv) (vI v :: st) (M)) : gGo p l e R s m args below meth c D cy B H0 nL k n Q (pc) (lv) (st) (M) := fun H locs ls hW hS hl => lv_ldcw X.1 X.2.1 X.2.2.2.1 (X.2.2.1 _ hc) hd (kk H locs ls hW hS hl)
theorem g_ldc2 {j : Nat} {v : Int64} (X : gX p s m args meth c D cy B Fs own cc ws nL) (hc : Jvm.Cond.constantLong own j v ∈ ws) (hd : decode cc pc = .ok (.ldc2_w j, 3)) (kk : gGo p l e R s m args below meth c D cy B H0 nL k n Q (pc + 3) (lv) (vJ v :: st) (M)) : gGo p l e R s m args below meth c D cy B H0 nL k n Q (pc) (lv) (st) (M) := fun H locs ls hW hS hl => lv_ldc2 X.1 X.2.1 X.2.2.2.1 (X.2.2.1 _ hc) hd (kk H locs ls hW hS hl)
theorem g_dup {v : gV} (X : gX p s m args meth c D cy B Fs own cc ws nL) (hd : decode cc pc = .ok (.dup, 1)) (hv : gw v = 1) (kk : gGo p l e R s m args below meth c D cy B H0 nL k n Q (pc + 1) (lv) (v :: v :: st) (M)) : gGo p l e R s m args below meth c D cy B H0 nL k n Q (pc) (lv) (v :: st) (M) := fun H locs ls hW hS hl => lv_dup X.1 X.2.1 hd ((gv_cat v).trans hv) (kk H locs ls hW hS hl)
theorem g_dup2 {v w : gV} (X : gX p s m args meth c D cy B Fs own cc ws nL) (hd : decode cc pc = .ok (.dup2, 1)) (hv : gw v = 1) (hw : gw w = 1) (kk : gGo p l e R s m args below meth c D cy B H0 nL k n Q (pc + 1) (lv) (v :: w :: v :: w :: st) (M)) : gGo p l e R s m args below meth c D cy B H0 nL k n Q (pc) (lv) (v :: w :: st) (M) := fun H locs ls hW hS hl => lv_dup2_11 X.1 X.2.1 hd ((gv_cat v).trans hv) ((gv_cat w).trans hw) (kk H locs ls hW hS hl)
theorem g_pop {v : gV} (X : gX p s m args meth c D cy B Fs own cc ws nL) (hd : decode cc pc = .ok (.pop, 1)) (hv : gw v = 1) (kk : gGo p l e R s m args below meth c D cy B H0 nL k n Q (pc + 1) (lv) (st) (M)) : gGo p l e R s m args below meth c D cy B H0 nL k n Q (pc) (lv) (v :: st) (M) := fun H locs ls hW hS hl => lv_pop X.1 X.2.1 hd ((gv_cat v).trans hv) (kk H locs ls hW hS hl)
theorem g_iadd {x y : Int32} (X : gX p s m args meth c D cy B Fs own cc ws nL) (hd : decode cc pc = .ok (.iadd, 1)) (kk : gGo p l e R s m args below meth c D cy B H0 nL k n Q (pc + 1) (lv) (vI (x + y) :: st) (M)) : gGo p l e R s m args below meth c D cy B H0 nL k n Q (pc) (lv) (vI y :: vI x :: st) (M) := fun H locs ls hW hS hl => lv_iadd X.1 X.2.1 hd (kk H locs ls hW hS hl)
theorem g_isub {x y : Int32} (X : gX p s m args meth c D cy B Fs own cc ws nL) (hd : decode cc pc = .ok (.isub, 1)) (kk : gGo p l e R s m args below meth c D cy B H0 nL k n Q (pc + 1) (lv) (vI (x - y) :: st) (M)) : gGo p l e R s m args below meth c D cy B H0 nL k n Q (pc) (lv) (vI y :: vI x :: st) (M) := fun H locs ls hW hS hl => lv_isub X.1 X.2.1 hd (kk H locs ls hW hS hl)
theorem g_imul {x y : Int32} (X : gX p s m args meth c D cy B Fs own cc ws nL) (hd : decode cc pc = .ok (.imul, 1)) (kk : gGo p l e R s m args below meth c D cy B H0 nL k n Q (pc + 1) (lv) (vI (x * y) :: st) (M)) : gGo p l e R s m args below meth c D cy B H0 nL k n Q (pc) (lv) (vI y :: vI x :: st) (M) := fun H locs ls hW hS hl => lv_imul X.1 X.2.1 hd (kk H locs ls hW hS hl)
theorem g_iand {x y : Int32} (X : gX p s m args meth c D cy B Fs own cc ws nL) (hd : decode cc pc = .ok (.iand, 1)) (kk : gGo p l e R s m args below meth c D cy B H0 nL k n Q (pc + 1) (lv) (vI (x &&& y) :: st) (M)) : gGo p l e R s m args below meth c D cy B H0 nL k n Q (pc) (lv) (vI y :: vI x :: st) (M) := fun H locs ls hW hS hl => lv_iand X.1 X.2.1 hd (kk H locs ls hW hS hl)
theorem g_ior {x y : Int32} (X : gX p s m args meth c D cy B Fs own cc ws nL) (hd : decode cc pc = .ok (.ior, 1)) (kk : gGo p l e R s m args below meth c D cy B H0 nL k n Q (pc + 1) (lv) (vI (x ||| y) :: st) (M)) : gGo p l e R s m args below meth c D cy B H0 nL k n Q (pc) (lv) (vI y :: vI x :: st) (M) := fun H locs ls hW hS hl => lv_ior X.1 X.2.1 hd (kk H locs ls hW hS hl)
theorem g_ishr {x y : Int32} (X : gX p s m args meth c D cy B Fs own cc ws nL) (hd : decode cc pc = .ok (.ishr, 1)) (kk : gGo p l e R s m args below meth c D cy B H0 nL k n Q (pc + 1) (lv) (vI (x >>> (y &&& 31)) :: st) (M)) : gGo p l e R s m args below meth c D cy B H0 nL k n Q (pc) (lv) (vI y :: vI x :: st) (M) := fun H locs ls hW hS hl => lv_ishr X.1 X.2.1 hd (kk H locs ls hW hS hl)
theorem g_ladd {x y : Int64} (X : gX p s m args meth c D cy B Fs own cc ws nL) (hd : decode cc pc = .ok (.ladd, 1)) (kk : gGo p l e R s m args below meth c D cy B H0 nL k n Q (pc + 1) (lv) (vJ (x + y) :: st) (M)) : gGo p l e R s m args below meth c D cy B H0 nL k n Q (pc) (lv) (vJ y :: vJ x :: st) (M) := fun H locs ls hW hS hl => lv_ladd X.1 X.2.1 hd (kk H locs ls hW hS hl)
theorem g_lmul {x y : Int64} (X : gX p s m args meth c D cy B Fs own cc ws nL) (hd : decode cc pc = .ok (.lmul, 1)) (kk : gGo p l e R s m args below meth c D cy B H0 nL k n Q (pc + 1) (lv) (vJ (x * y) :: st) (M)) : gGo p l e R s m args below meth c D cy B H0 nL k n Q (pc) (lv) (vJ y :: vJ x :: st) (M) := fun H locs ls hW hS hl => lv_lmul X.1 X.2.1 hd (kk H locs ls hW hS hl)
theorem g_idiv {x y : Int32} (X : gX p s m args meth c D cy B Fs own cc ws nL) (hd : decode cc pc = .ok (.idiv, 1)) (h : ¬ y = 0) (kk : gGo p l e R s m args below meth c D cy B H0 nL k n Q (pc + 1) (lv) (vI (x / y) :: st) (M)) : gGo p l e R s m args below meth c D cy B H0 nL k n Q (pc) (lv) (vI y :: vI x :: st) (M) := fun H locs ls hW hS hl => lv_idiv X.1 X.2.1 hd h (kk H locs ls hW hS hl)
theorem g_irem {x y : Int32} (X : gX p s m args meth c D cy B Fs own cc ws nL) (hd : decode cc pc = .ok (.irem, 1)) (h : ¬ y = 0) (kk : gGo p l e R s m args below meth c D cy B H0 nL k n Q (pc + 1) (lv) (vI (x - x / y * y) :: st) (M)) : gGo p l e R s m args below meth c D cy B H0 nL k n Q (pc) (lv) (vI y :: vI x :: st) (M) := fun H locs ls hW hS hl => lv_irem X.1 X.2.1 hd h (kk H locs ls hW hS hl)
theorem g_iushr {x y : Int32} (X : gX p s m args meth c D cy B Fs own cc ws nL) (hd : decode cc pc = .ok (.iushr, 1)) (kk : gGo p l e R s m args below meth c D cy B H0 nL k n Q (pc + 1) (lv) (vI (ushr x y) :: st) (M)) : gGo p l e R s m args below meth c D cy B H0 nL k n Q (pc) (lv) (vI y :: vI x :: st) (M) := fun H locs ls hW hS hl => lv_iushr X.1 X.2.1 hd rfl (kk H locs ls hW hS hl)
theorem g_ineg {x : Int32} (X : gX p s m args meth c D cy B Fs own cc ws nL) (hd : decode cc pc = .ok (.ineg, 1)) (kk : gGo p l e R s m args below meth c D cy B H0 nL k n Q (pc + 1) (lv) (vI (-x) :: st) (M)) : gGo p l e R s m args below meth c D cy B H0 nL k n Q (pc) (lv) (vI x :: st) (M) := fun H locs ls hW hS hl => lv_ineg X.1 X.2.1 hd (kk H locs ls hW hS hl)
theorem g_i2l {x : Int32} (X : gX p s m args meth c D cy B Fs own cc ws nL) (hd : decode cc pc = .ok (.i2l, 1)) (kk : gGo p l e R s m args below meth c D cy B H0 nL k n Q (pc + 1) (lv) (vJ x.toInt64 :: st) (M)) : gGo p l e R s m args below meth c D cy B H0 nL k n Q (pc) (lv) (vI x :: st) (M) := fun H locs ls hW hS hl => lv_i2l X.1 X.2.1 hd rfl (kk H locs ls hW hS hl)
theorem g_l2i {x : Int64} (X : gX p s m args meth c D cy B Fs own cc ws nL) (hd : decode cc pc = .ok (.l2i, 1)) (kk : gGo p l e R s m args below meth c D cy B H0 nL k n Q (pc + 1) (lv) (vI x.toInt32 :: st) (M)) : gGo p l e R s m args below meth c D cy B H0 nL k n Q (pc) (lv) (vJ x :: st) (M) := fun H locs ls hW hS hl => lv_l2i X.1 X.2.1 hd rfl (kk H locs ls hW hS hl)
theorem g_i2b {x : Int32} (X : gX p s m args meth c D cy B Fs own cc ws nL) (hd : decode cc pc = .ok (.i2b, 1)) (kk : gGo p l e R s m args below meth c D cy B H0 nL k n Q (pc + 1) (lv) (vI (i2bV x) :: st) (M)) : gGo p l e R s m args below meth c D cy B H0 nL k n Q (pc) (lv) (vI x :: st) (M) := fun H locs ls hW hS hl => lv_i2b X.1 X.2.1 hd rfl (kk H locs ls hW hS hl)
theorem g_i2c {x : Int32} (X : gX p s m args meth c D cy B Fs own cc ws nL) (hd : decode cc pc = .ok (.i2c, 1)) (kk : gGo p l e R s m args below meth c D cy B H0 nL k n Q (pc + 1) (lv) (vI (i2cV x) :: st) (M)) : gGo p l e R s m args below meth c D cy B H0 nL k n Q (pc) (lv) (vI x :: st) (M) := fun H locs ls hW hS hl => lv_i2c X.1 X.2.1 hd rfl (kk H locs ls hW hS hl)
theorem g_lcmp {x y : Int64} (X : gX p s m args meth c D cy B Fs own cc ws nL) (hd : decode cc pc = .ok (.lcmp, 1)) (kk : gGo p l e R s m args below meth c D cy B H0 nL k n Q (pc + 1) (lv) (vI (lg_cmp x y) :: st) (M)) : gGo p l e R s m args below meth c D cy B H0 nL k n Q (pc) (lv) (vJ y :: vJ x :: st) (M) := fun H locs ls hW hS hl => W.lcmp X.1 X.2.1 hd (kk H locs ls hW hS hl)
theorem g_goto {off : Int} {tgt : Nat} (X : gX p s m args meth c D cy B Fs own cc ws nL) (hd : decode cc pc = .ok (.goto off, 3)) (ht : (pc : Int) + off = (tgt : Int)) (kk : gGo p l e R s m args below meth c D cy B H0 nL k n Q (tgt) (lv) (st) (M)) : gGo p l e R s m args below meth c D cy B H0 nL k n Q (pc) (lv) (st) (M) := fun H locs ls hW hS hl => lv_goto X.1 X.2.1 hd ht (kk H locs ls hW hS hl)
theorem g_if_eq {x : Int32} {off : Int} {tgt : Nat} (X : gX p s m args meth c D cy B Fs own cc ws nL) (hd : decode cc pc = .ok (.ifCond .eq off, 3)) (ht : (pc : Int) + off = (tgt : Int)) (kt : x = 0 → gGo p l e R s m args below meth c D cy B H0 nL k n Q (tgt) (lv) (st) (M)) (kf : ¬ x = 0 → gGo p l e R s m args below meth c D cy B H0 nL k n Q (pc + 3) (lv) (st) (M)) : gGo p l e R s m args below meth c D cy B H0 nL k n Q (pc) (lv) (vI x :: st) (M) := fun H locs ls hW hS hl => lv_if_eq X.1 X.2.1 hd ht (fun h => kt h H locs ls hW hS hl) (fun h => kf h H locs ls hW hS hl)
theorem g_if_ne {x : Int32} {off : Int} {tgt : Nat} (X : gX p s m args meth c D cy B Fs own cc ws nL) (hd : decode cc pc = .ok (.ifCond .ne off, 3)) (ht : (pc : Int) + off = (tgt : Int)) (kt : ¬ x = 0 → gGo p l e R s m args below meth c D cy B H0 nL k n Q (tgt) (lv) (st) (M)) (kf : x = 0 → gGo p l e R s m args below meth c D cy B H0 nL k n Q (pc + 3) (lv) (st) (M)) : gGo p l e R s m args below meth c D cy B H0 nL k n Q (pc) (lv) (vI x :: st) (M) := fun H locs ls hW hS hl => lv_if_ne X.1 X.2.1 hd ht (fun h => kt h H locs ls hW hS hl) (fun h => kf h H locs ls hW hS hl)
theorem g_if_lt {x : Int32} {off : Int} {tgt : Nat} (X : gX p s m args meth c D cy B Fs own cc ws nL) (hd : decode cc pc = .ok (.ifCond .lt off, 3)) (ht : (pc : Int) + off = (tgt : Int)) (kt : x < 0 → gGo p l e R s m args below meth c D cy B H0 nL k n Q (tgt) (lv) (st) (M)) (kf : ¬ x < 0 → gGo p l e R s m args below meth c D cy B H0 nL k n Q (pc + 3) (lv) (st) (M)) : gGo p l e R s m args below meth c D cy B H0 nL k n Q (pc) (lv) (vI x :: st) (M) := fun H locs ls hW hS hl => lv_if_lt X.1 X.2.1 hd ht (fun h => kt h H locs ls hW hS hl) (fun h => kf h H locs ls hW hS hl)
theorem g_if_ge {x : Int32} {off : Int} {tgt : Nat} (X : gX p s m args meth c D cy B Fs own cc ws nL) (hd : decode cc pc = .ok (.ifCond .ge off, 3)) (ht : (pc : Int) + off = (tgt : Int)) (kt : 0 ≤ x → gGo p l e R s m args below meth c D cy B H0 nL k n Q (tgt) (lv) (st) (M)) (kf : ¬ 0 ≤ x → gGo p l e R s m args below meth c D cy B H0 nL k n Q (pc + 3) (lv) (st) (M)) : gGo p l e R s m args below meth c D cy B H0 nL k n Q (pc) (lv) (vI x :: st) (M) := fun H locs ls hW hS hl => lv_if_ge X.1 X.2.1 hd ht (fun h => kt h H locs ls hW hS hl) (fun h => kf h H locs ls hW hS hl)
theorem g_if_gt {x : Int32} {off : Int} {tgt : Nat} (X : gX p s m args meth c D cy B Fs own cc ws nL) (hd : decode cc pc = .ok (.ifCond .gt off, 3)) (ht : (pc : Int) + off = (tgt : Int)) (kt : 0 < x → gGo p l e R s m args below meth c D cy B H0 nL k n Q (tgt) (lv) (st) (M)) (kf : ¬ 0 < x → gGo p l e R s m args below meth c D cy B H0 nL k n Q (pc + 3) (lv) (st) (M)) : gGo p l e R s m args below meth c D cy B H0 nL k n Q (pc) (lv) (vI x :: st) (M) := fun H locs ls hW hS hl => lv_if_gt X.1 X.2.1 hd ht (fun h => kt h H locs ls hW hS hl) (fun h => kf h H locs ls hW hS hl)
theorem g_if_le {x : Int32} {off : Int} {tgt : Nat} (X : gX p s m args meth c D cy B Fs own cc ws nL) (hd : decode cc pc = .ok (.ifCond .le off, 3)) (ht : (pc : Int) + off = (tgt : Int)) (kt : x ≤ 0 → gGo p l e R s m args below meth c D cy B H0 nL k n Q (tgt) (lv) (st) (M)) (kf : ¬ x ≤ 0 → gGo p l e R s m args below meth c D cy B H0 nL k n Q (pc + 3) (lv) (st) (M)) : gGo p l e R s m args below meth c D cy B H0 nL k n Q (pc) (lv) (vI x :: st) (M) := fun H locs ls hW hS hl => lv_if_le X.1 X.2.1 hd ht (fun h => kt h H locs ls hW hS hl) (fun h => kf h H locs ls hW hS hl)
theorem g_icmp_eq {x y : Int32} {off : Int} {tgt : Nat} (X : gX p s m args meth c D cy B Fs own cc ws nL) (hd : decode cc pc = .ok (.if_icmp .eq off, 3)) (ht : (pc : Int) + off = (tgt : Int)) (kt : x = y → gGo p l e R s m args below meth c D cy B H0 nL k n Q (tgt) (lv) (st) (M)) (kf : ¬ x = y → gGo p l e R s m args below meth c D cy B H0 nL k n Q (pc + 3) (lv) (st) (M)) : gGo p l e R s m args below meth c D cy B H0 nL k n Q (pc) (lv) (vI y :: vI x :: st) (M) := fun H locs ls hW hS hl => lv_icmp_eq X.1 X.2.1 hd ht (fun h => kt h H locs ls hW hS hl) (fun h => kf h H locs ls hW hS hl)
theorem g_icmp_ne {x y : Int32} {off : Int} {tgt : Nat} (X : gX p s m args meth c D cy B Fs own cc ws nL) (hd : decode cc pc = .ok (.if_icmp .ne off, 3)) (ht : (pc : Int) + off = (tgt : Int)) (kt : ¬ x = y → gGo p l e R s m args below meth c D cy B H0 nL k n Q (tgt) (lv) (st) (M)) (kf : x = y → gGo p l e R s m args below meth c D cy B H0 nL k n Q (pc + 3) (lv) (st) (M)) : gGo p l e R s m args below meth c D cy B H0 nL k n Q (pc) (lv) (vI y :: vI x :: st) (M) := fun H locs ls hW hS hl => lv_icmp_ne X.1 X.2.1 hd ht (fun h => kt h H locs ls hW hS hl) (fun h => kf h H locs ls hW hS hl)
theorem g_icmp_lt {x y : Int32} {off : Int} {tgt : Nat} (X : gX p s m args meth c D cy B Fs own cc ws nL) (hd : decode cc pc = .ok (.if_icmp .lt off, 3)) (ht : (pc : Int) + off = (tgt : Int)) (kt : x < y → gGo p l e R s m args below meth c D cy B H0 nL k n Q (tgt) (lv) (st) (M)) (kf : ¬ x < y → gGo p l e R s m args below meth c D cy B H0 nL k n Q (pc + 3) (lv) (st) (M)) : gGo p l e R s m args below meth c D cy B H0 nL k n Q (pc) (lv) (vI y :: vI x :: st) (M) := fun H locs ls hW hS hl => lv_icmp_lt X.1 X.2.1 hd ht (fun h => kt h H locs ls hW hS hl) (fun h => kf h H locs ls hW hS hl)
theorem g_icmp_ge {x y : Int32} {off : Int} {tgt : Nat} (X : gX p s m args meth c D cy B Fs own cc ws nL) (hd : decode cc pc = .ok (.if_icmp .ge off, 3)) (ht : (pc : Int) + off = (tgt : Int)) (kt : y ≤ x → gGo p l e R s m args below meth c D cy B H0 nL k n Q (tgt) (lv) (st) (M)) (kf : ¬ y ≤ x → gGo p l e R s m args below meth c D cy B H0 nL k n Q (pc + 3) (lv) (st) (M)) : gGo p l e R s m args below meth c D cy B H0 nL k n Q (pc) (lv) (vI y :: vI x :: st) (M) := fun H locs ls hW hS hl => lv_icmp_ge X.1 X.2.1 hd ht (fun h => kt h H locs ls hW hS hl) (fun h => kf h H locs ls hW hS hl)
theorem g_icmp_gt {x y : Int32} {off : Int} {tgt : Nat} (X : gX p s m args meth c D cy B Fs own cc ws nL) (hd : decode cc pc = .ok (.if_icmp .gt off, 3)) (ht : (pc : Int) + off = (tgt : Int)) (kt : y < x → gGo p l e R s m args below meth c D cy B H0 nL k n Q (tgt) (lv) (st) (M)) (kf : ¬ y < x → gGo p l e R s m args below meth c D cy B H0 nL k n Q (pc + 3) (lv) (st) (M)) : gGo p l e R s m args below meth c D cy B H0 nL k n Q (pc) (lv) (vI y :: vI x :: st) (M) := fun H locs ls hW hS hl => lv_icmp_gt X.1 X.2.1 hd ht (fun h => kt h H locs ls hW hS hl) (fun h => kf h H locs ls hW hS hl)
theorem g_icmp_le {x y : Int32} {off : Int} {tgt : Nat} (X : gX p s m args meth c D cy B Fs own cc ws nL) (hd : decode cc pc = .ok (.if_icmp .le off, 3)) (ht : (pc : Int) + off = (tgt : Int)) (kt : x ≤ y → gGo p l e R s m args below meth c D cy B H0 nL k n Q (tgt) (lv) (st) (M)) (kf : ¬ x ≤ y → gGo p l e R s m args below meth c D cy B H0 nL k n Q (pc + 3) (lv) (st) (M)) : gGo p l e R s m args below meth c D cy B H0 nL k n Q (pc) (lv) (vI y :: vI x :: st) (M) := fun H locs ls hW hS hl => lv_icmp_le X.1 X.2.1 hd ht (fun h => kt h H locs ls hW hS hl) (fun h => kf h H locs ls hW hS hl)
theorem g_acmp_eq {x y : Option Nat} {off : Int} {tgt : Nat} (X : gX p s m args meth c D cy B Fs own cc ws nL) (hd : decode cc pc = .ok (.if_acmp .eq off, 3)) (ht : (pc : Int) + off = (tgt : Int)) (kt : x = y → gGo p l e R s m args below meth c D cy B H0 nL k n Q (tgt) (lv) (st) (M)) (kf : ¬ x = y → gGo p l e R s m args below meth c D cy B H0 nL k n Q (pc + 3) (lv) (st) (M)) : gGo p l e R s m args below meth c D cy B H0 nL k n Q (pc) (lv) (vR y :: vR x :: st) (M) := fun H locs ls hW hS hl => lv_acmp_eq X.1 X.2.1 hd ht (fun h => kt h H locs ls hW hS hl) (fun h => kf h H locs ls hW hS hl)
theorem g_acmp_ne {x y : Option Nat} {off : Int} {tgt : Nat} (X : gX p s m args meth c D cy B Fs own cc ws nL) (hd : decode cc pc = .ok (.if_acmp .ne off, 3)) (ht : (pc : Int) + off = (tgt : Int)) (kt : ¬ x = y → gGo p l e R s m args below meth c D cy B H0 nL k n Q (tgt) (lv) (st) (M)) (kf : x = y → gGo p l e R s m args below meth c D cy B H0 nL k n Q (pc + 3) (lv) (st) (M)) : gGo p l e R s m args below meth c D cy B H0 nL k n Q (pc) (lv) (vR y :: vR x :: st) (M) := fun H locs ls hW hS hl => lv_acmp_ne X.1 X.2.1 hd ht (fun h => kt h H locs ls hW hS hl) (fun h => kf h H locs ls hW hS hl)
theorem g_tabin {dflt lo hi : Int} {offs : Array Int} {len : Nat} {x : Int32} {off : Int} {tgt : Nat} (X : gX p s m args meth c D cy B Fs own cc ws nL) (hd : decode cc pc = .ok (.tableswitch dflt lo hi offs, len)) {j : Int32} (hx : x = j) (h1 : ¬ j.toInt < lo) (h2 : ¬ hi < j.toInt) (ho : offs[(j.toInt - lo).toNat]? = some off) (ht : (pc : Int) + off = (tgt : Int)) (kk : gGo p l e R s m args below meth c D cy B H0 nL k n Q (tgt) (lv) (st) (M)) : gGo p l e R s m args below meth c D cy B H0 nL k n Q (pc) (lv) (vI x :: st) (M) := fun H locs ls hW hS hl => by
  subst hx
  exact lv_tableIn X.1 X.2.1 hd h1 h2 ho ht (kk H locs ls hW hS hl)
theorem g_tabout {dflt lo hi : Int} {offs : Array Int} {len : Nat} {x : Int32} {tgt : Nat} (X : gX p s m args meth c D cy B Fs own cc ws nL) (hd : decode cc pc = .ok (.tableswitch dflt lo hi offs, len)) (h : x.toInt < lo ∨ hi < x.toInt) (ht : (pc : Int) + dflt = (tgt : Int)) (kk : gGo p l e R s m args below meth c D cy B H0 nL k n Q (tgt) (lv) (st) (M)) : gGo p l e R s m args below meth c D cy B H0 nL k n Q (pc) (lv) (vI x :: st) (M) := fun H locs ls hW hS hl => lv_tableOut X.1 X.2.1 hd h ht (kk H locs ls hW hS hl)
theorem g_lookup {dflt : Int} {ps : Array (Int × Int)} {len : Nat} {x : Int32} {off : Int} {tgt : Nat} (X : gX p s m args meth c D cy B Fs own cc ws nL) (hd : decode cc pc = .ok (.lookupswitch dflt ps, len)) (hp : (ps.toList.zip (ps.toList.drop 1)).all (fun (a, next) => a.1 < next.1) = true) (ho : Op.lookupswitch.offset ps.toList dflt x.toInt = off) (ht : (pc : Int) + off = (tgt : Int)) (kk : gGo p l e R s m args below meth c D cy B H0 nL k n Q (tgt) (lv) (st) (M)) : gGo p l e R s m args below meth c D cy B H0 nL k n Q (pc) (lv) (vI x :: st) (M) := fun H locs ls hW hS hl => lv_lookup X.1 X.2.1 hd hp ho ht (kk H locs ls hW hS hl)
/-- reads: a field, an array's element, an array's length -/
theorem gW_P {H : Heap} {a : Nat} {x : va_E} (hW : gW D cy B H0 M H) (hT : mT M a ≠ 0) (hE : gE cy M a = x) : va_P D vwCl [(a, x)] H := by
  intro j q hj
  have hz : j < 1 := (List.getElem?_eq_some_iff.mp hj).1
  rw [show j = 0 by omega] at hj
  cases hj
  rw [← hE]
  exact (hW.2.2.2 a hT).2
theorem g_get {ci : Nat} {C ref : String} {T : u_T} {N : Nat} {ty : Nat → FieldType} {j a : Nat} {r : Option Nat} {v : gV} (f : Nat) (X : gX p s m args meth c D cy B Fs own cc ws nL) (hC : gCD ci C T N ty) (hin : ∀ w ∈ u_ws C T N, w ∈ ws) (hf : f < N) (hlk : Cond.fieldLink own j ref (T f).2.1 (T f).2.2.1 ∈ ws) (href : (T f).1 = ref) (hd : decode cc pc = .ok (.getfield j, 3)) (ha : r = some a) (hT : mT M a = ci + 1) (hv : (gFl M a (gLay (ci + 1)) 0)[f]? = some (gv v)) (kk : gGo p l e R s m args below meth c D cy B H0 nL k n Q (pc + 3) (lv) (v :: st) (M)) : gGo p l e R s m args below meth c D cy B H0 nL k n Q (pc) (lv) (vR r :: st) (M) := fun H locs ls hW hS hl => by
  subst ha
  exact va_get (D := D) (ci := ci) (C := C) (T := T) (N := N) X.1 X.2.1 X.2.2.1 hin X.2.2.2.1 X.2.2.2.2.2.1 (gW_P hW (by omega) (gE_obj hT hC.2.2.2.1)) 0 rfl hC.1 f hf (X.2.2.1 _ hlk) (fun x h => href ▸ h) hv hd (kk H locs ls hW hS hl)
theorem g_iald {a : Nat} {r : Option Nat} {i : Int32} (X : gX p s m args meth c D cy B Fs own cc ws nL) (hd : decode cc pc = .ok (.iaload, 1)) (ha : r = some a) (hT : mT M a = 20) (hin : vp_in i (mL M a)) (kk : gGo p l e R s m args below meth c D cy B H0 nL k n Q (pc + 1) (lv) (vI (mI M a i.toNatClampNeg) :: st) (M)) : gGo p l e R s m args below meth c D cy B H0 nL k n Q (pc) (lv) (vI i :: vR r :: st) (M) := fun H locs ls hW hS hl => by
  subst ha
  exact va_iald X.1 X.2.1 X.2.2.2.2.2.1 (gW_P hW (by omega) (gE_int hT)) 0 0 rfl rfl hin hd (kk H locs ls hW hS hl)
theorem g_bald {a : Nat} {r : Option Nat} {i : Int32} (X : gX p s m args meth c D cy B Fs own cc ws nL) (hd : decode cc pc = .ok (.baload, 1)) (ha : r = some a) (hT : mT M a = 22) (hin : vp_in i (mL M a)) (kk : gGo p l e R s m args below meth c D cy B H0 nL k n Q (pc + 1) (lv) (vI (mI M a i.toNatClampNeg) :: st) (M)) : gGo p l e R s m args below meth c D cy B H0 nL k n Q (pc) (lv) (vI i :: vR r :: st) (M) := fun H locs ls hW hS hl => by
  subst ha
  exact va_bald X.1 X.2.1 X.2.2.2.2.2.1 (gW_P hW (by omega) (gE_byte hT)) 0 2 rfl rfl hin hd (kk H locs ls hW hS hl)
theorem g_lald {a : Nat} {r : Option Nat} {i : Int32} (X : gX p s m args meth c D cy B Fs own cc ws nL) (hd : decode cc pc = .ok (.laload, 1)) (ha : r = some a) (hT : mT M a = 21) (hin : vp_in i (mL M a)) (kk : gGo p l e R s m args below meth c D cy B H0 nL k n Q (pc + 1) (lv) (vJ (mJ M a i.toNatClampNeg) :: st) (M)) : gGo p l e R s m args below meth c D cy B H0 nL k n Q (pc) (lv) (vI i :: vR r :: st) (M) := fun H locs ls hW hS hl => by
  subst ha
  exact va_lald X.1 X.2.1 X.2.2.2.2.2.1 (gW_P hW (by omega) (gE_long hT)) 0 1 rfl rfl hin hd (kk H locs ls hW hS hl)
theorem g_aald {a t t0 : Nat} {C : String} {r : Option Nat} {i : Int32} (X : gX p s m args meth c D cy B Fs own cc ws nL) (hd : decode cc pc = .ok (.aaload, 1)) (ha : r = some a) (hT : mT M a = t) (ht : 23 ≤ t ∧ t < 29) (hty : (gTys cy)[t0]? = some (cy t, .object C)) (hin : vp_in i (mL M a)) (kk : gGo p l e R s m args below meth c D cy B H0 nL k n Q (pc + 1) (lv) (vR (mR M a i.toNatClampNeg) :: st) (M)) : gGo p l e R s m args below meth c D cy B H0 nL k n Q (pc) (lv) (vI i :: vR r :: st) (M) := fun H locs ls hW hS hl => by
  subst ha
  exact va_aldq X.1 X.2.1 X.2.2.2.2.2.1 (gW_P hW (by omega) (gE_ref hT ht)) 0 t0 rfl hty hin hd (kk H locs ls hW hS hl)
theorem g_alen {a t t0 : Nat} {ty : FieldType} {r : Option Nat} (X : gX p s m args meth c D cy B Fs own cc ws nL) (hd : decode cc pc = .ok (.arraylength, 1)) (ha : r = some a) (hT : mT M a = t) (ht : 20 ≤ t ∧ t < 30) (hty : (gTys cy)[t0]? = some (cy t, ty)) (kk : gGo p l e R s m args below meth c D cy B H0 nL k n Q (pc + 1) (lv) (vI (Int32.ofNat (mL M a)) :: st) (M)) : gGo p l e R s m args below meth c D cy B H0 nL k n Q (pc) (lv) (vR r :: st) (M) := fun H locs ls hW hS hl => by
  subst ha
  have hE : ∃ x : (Nat → Int32) ⊕ (Nat → Int64) ⊕ (Nat → UInt32) ⊕ (Nat → UInt64) ⊕ (Nat → Option Nat), gE cy M a = .inl (cy t, mL M a, x) := by
    by_cases h1 : t = 21
    · subst h1; exact ⟨_, gE_long hT⟩
    · by_cases h2 : t < 23
      · unfold gE; rw [hT, if_neg (by omega), if_neg h1, if_pos h2]; exact ⟨_, rfl⟩
      · by_cases h3 : t = 29
        · subst h3; exact ⟨_, gE_bool hT⟩
        · exact ⟨_, gE_ref hT (by omega)⟩
  obtain ⟨x, hE⟩ := hE
  exact va_alen X.1 X.2.1 X.2.2.2.2.2.1 (gW_P hW (by omega) hE) 0 t0 rfl hty rfl hd (kk H locs ls hW hS hl)
/-- writes -/
theorem gW_set {H H1 : Heap} {M' : gMem} {a : Nat} (hW : gW D cy B H0 M H) (hT : mT M a ≠ 0) (e : va_at D vwCl (a, gE cy M' a) H1) (z : H1.size = H.size) (oq : ∀ q : Nat, q ≠ a → H1[q]? = H[q]?) (hN : mN M' = mN M) (h0 : mT M' = mT M) (hE : ∀ b, b ≠ a → gE cy M' b = gE cy M b) : gW D cy B H0 M' H1 := by
  obtain ⟨w1, w2, w3, w4⟩ := hW
  refine ⟨by rw [z, hN]; exact w1, by rw [hN]; exact w2, fun q hq => ?_, fun b hb => ?_⟩
  · rw [oq q (fun h => by have := (w4 a hT).1; omega)]; exact w3 q hq
  · rw [h0] at hb
    refine ⟨(w4 b hb).1, ?_⟩
    by_cases hba : b = a
    · subst hba; exact e
    · rw [hE b hba]; exact (w4 b hb).2.kept (oq b hba)
theorem gE_wI {b a i : Nat} {v : Int32} (h : b ≠ a) : gE cy (wI M a i v) b = gE cy M b := gE_congr rfl rfl (by funext j; simp [wI, mI, up2, h]) rfl rfl
theorem gE_wR {b a i : Nat} {v : Option Nat} (h : b ≠ a) : gE cy (wR M a i v) b = gE cy M b := gE_congr rfl rfl rfl (by funext j; simp [wR, mR, up2, h]) rfl
theorem gE_wJ {b a i : Nat} {v : Int64} (h : b ≠ a) : gE cy (wJ M a i v) b = gE cy M b := gE_congr rfl rfl rfl rfl (by funext j; simp [wJ, mJ, up2, h])
theorem g_putV {ci : Nat} {C ref : String} {T : u_T} {N : Nat} {ty : Nat → FieldType} {j a : Nat} {r : Option Nat} {v : gV} {M' : gMem} (f : Nat) (X : gX p s m args meth c D cy B Fs own cc ws nL) (hC : gCD ci C T N ty) (hin : ∀ w ∈ u_ws C T N, w ∈ ws) (hf : f < N) (hlk : Cond.fieldLink own j ref (T f).2.1 (T f).2.2.1 ∈ ws) (href : (T f).1 = ref) (hd : decode cc pc = .ok (.putfield j, 3)) (ha : r = some a) (hT : mT M a = ci + 1)
    (hfin : (T f).2.2.2 = false ∨ ((T f).2.2.2 = true ∧ meth.name = "<init>" ∧ (T f).1 = own)) (hn : narrow (ty f) (gv v) = gv v) (hfit : fits (ty f) (gv v) = true)
    (hE : gE cy M' a = .inr (ci, (gFl M a (gLay (ci + 1)) 0).set f (gv v))) (hE' : ∀ b, b ≠ a → gE cy M' b = gE cy M b) (hN : mN M' = mN M) (h0 : mT M' = mT M)
    (kk : gGo p l e R s m args below meth c D cy B H0 nL k n Q (pc + 3) (lv) (st) (M')) : gGo p l e R s m args below meth c D cy B H0 nL k n Q (pc) (lv) (v :: vR r :: st) (M) := fun H locs ls hW hS hl => by
  subst ha
  have hTn : mT M a ≠ 0 := by omega
  obtain ⟨hcl, hty, hnm, hlt, hlen⟩ := hC
  obtain ⟨hx, hb, hts, hown, hml, hK, hB, hlk2, hFs⟩ := X
  have hat := (hW.2.2.2 a hTn).2
  rw [gE_obj hT hlt] at hat
  have hap := va_apart (own := own) hts hin ty hty hnm hK hcl
  obtain ⟨r, h1, cell, q1, q2, q3, q4⟩ := hat
  have hr : r = (C, T, N) := Option.some.inj (h1.symm.trans hcl)
  subst hr
  obtain ⟨hSl, hfc, kC, hkC, hkind⟩ := hK.1 ci _ hcl
  obtain ⟨cf, kf, fi, fd, hi, hsl⟩ := hSl f hf
  have hlay := hts _ (hin _ (u_in_lay hf))
  unfold u_lay at hlay
  have hst := (u_facts hfc hkC (u_lays hts hin hf) hi).1
  have hl2 : f < (gFl M a (gLay (ci + 1)) 0).length := by rw [gFl_len, ← hlen]; exact hf
  have fin : ∀ (H' : Heap), H'[a]? = some (cell.setSlot fd.slot (gv v)) → H'.size = H.size → (∀ q : Nat, q ≠ a → H'[q]? = H[q]?) → gW D cy B H0 M' H' := fun H' e1 e2 e3 => by
    rw [hsl] at e1
    refine gW_set hW hTn ?_ e2 e3 hN h0 hE'
    rw [hE]
    exact ⟨_, hcl, t_OB.to (V := updV (vp_V _) f (gv v)) ⟨_, e1, q2, q3, t_set q4 hap hf (gv v)⟩ (fun j _ => vp_updV_set hl2 (gv v) j)⟩
  rcases hfin with hfin | ⟨hfin, hin2, hdecl⟩
  · rw [if_neg (by rw [hfin]; decide)] at hlay
    have h6 := u_store hfc hkC hkind hlay hi (hty f hf) hn hfit
    exact W.putK hx hb (f := fd) ⟨hown, hts _ hlk, ⟨_, _, _, href ▸ hi⟩, hst⟩ (by rw [q2]; exact h6) q1 q3 (by rw [hsl]; exact k2_hasslot (q4 f hf)) rfl rfl hd fun H' e1 e2 e3 =>
      kk H' _ ls (fin H' e1 e2 e3) (hS.put e2 e3 (hW.2.2.2 a hTn).1) hl
  · rw [if_pos hfin] at hlay
    have hcf : m.cls = cf := by
      obtain ⟨_, _, c', _, _, _, -, -, hf', -, -, -, hown2, -⟩ := Cond.laysFinal_spec hlay
      have e1 : c' = cf := by have := hi.symm.trans hf'; simp at this; exact this.1.symm
      rw [hdecl] at hown2
      rw [← e1]; exact Option.some.inj (hown.symm.trans hown2)
    have h6 := u_fits hfc hkC hkind (Or.inr hlay) hi (hty f hf) hn hfit
    exact W.putFinK hx hb hown (hts _ hlk) (href ▸ hi) hst hcf hin2 (by rw [q2]; exact h6) q1 q3 (by rw [hsl]; exact k2_hasslot (q4 f hf)) rfl rfl hd fun H' e1 e2 e3 =>
      kk H' _ ls (fin H' e1 e2 e3) (hS.put e2 e3 (hW.2.2.2 a hTn).1) hl
theorem g_putI {ci : Nat} {C ref : String} {T : u_T} {N : Nat} {ty : Nat → FieldType} {j a : Nat} {r : Option Nat} {v : Int32} (f : Nat) (X : gX p s m args meth c D cy B Fs own cc ws nL) (hC : gCD ci C T N ty) (hin : ∀ w ∈ u_ws C T N, w ∈ ws) (hf : f < N) (hlk : Cond.fieldLink own j ref (T f).2.1 (T f).2.2.1 ∈ ws) (href : (T f).1 = ref) (hd : decode cc pc = .ok (.putfield j, 3)) (ha : r = some a) (hT : mT M a = ci + 1)
    (hfin : (T f).2.2.2 = false ∨ ((T f).2.2.2 = true ∧ meth.name = "<init>" ∧ (T f).1 = own)) (hn : narrow (ty f) (.int v) = .int v) (hfit : fits (ty f) (.int v) = true) (hlay : (gLay (ci + 1))[f]? = some (some false))
    (kk : gGo p l e R s m args below meth c D cy B H0 nL k n Q (pc + 3) (lv) (st) (wI M a f v)) : gGo p l e R s m args below meth c D cy B H0 nL k n Q (pc) (lv) (vI v :: vR r :: st) (M) :=
  g_putV f X hC hin hf hlk href hd ha hT hfin hn hfit (by rw [gE_obj (M := wI M a f v) hT hC.2.2.2.1, show wI M a f v = wI M a (0 + f) v by rw [Nat.zero_add], gFl_I _ 0 f hlay]; rfl) (fun b hb => gE_wI hb) rfl rfl kk
theorem g_putR {ci : Nat} {C ref : String} {T : u_T} {N : Nat} {ty : Nat → FieldType} {j a : Nat} {r v : Option Nat} (f : Nat) (X : gX p s m args meth c D cy B Fs own cc ws nL) (hC : gCD ci C T N ty) (hin : ∀ w ∈ u_ws C T N, w ∈ ws) (hf : f < N) (hlk : Cond.fieldLink own j ref (T f).2.1 (T f).2.2.1 ∈ ws) (href : (T f).1 = ref) (hd : decode cc pc = .ok (.putfield j, 3)) (ha : r = some a) (hT : mT M a = ci + 1)
    (hfin : (T f).2.2.2 = false ∨ ((T f).2.2.2 = true ∧ meth.name = "<init>" ∧ (T f).1 = own)) (hn : narrow (ty f) (va_rf v) = va_rf v) (hfit : fits (ty f) (va_rf v) = true) (hlay : (gLay (ci + 1))[f]? = some (some true))
    (kk : gGo p l e R s m args below meth c D cy B H0 nL k n Q (pc + 3) (lv) (st) (wR M a f v)) : gGo p l e R s m args below meth c D cy B H0 nL k n Q (pc) (lv) (vR v :: vR r :: st) (M) :=
  g_putV f X hC hin hf hlk href hd ha hT hfin hn hfit (by rw [gE_obj (M := wR M a f v) hT hC.2.2.2.1, show wR M a f v = wR M a (0 + f) v by rw [Nat.zero_add], gFl_R _ 0 f hlay]; rfl) (fun b hb => gE_wR hb) rfl rfl kk
theorem g_iast {a : Nat} {r : Option Nat} {i v : Int32} (X : gX p s m args meth c D cy B Fs own cc ws nL) (hd : decode cc pc = .ok (.iastore, 1)) (ha : r = some a) (hT : mT M a = 20) (hin : vp_in i (mL M a)) (kk : gGo p l e R s m args below meth c D cy B H0 nL k n Q (pc + 1) (lv) (st) (wI M a i.toNatClampNeg v)) : gGo p l e R s m args below meth c D cy B H0 nL k n Q (pc) (lv) (vI v :: vI i :: vR r :: st) (M) := fun H locs ls hW hS hl => by
  subst ha
  have hTn : mT M a ≠ 0 := by omega
  have hat := (hW.2.2.2 a hTn).2
  rw [gE_int hT] at hat
  refine W.iast X.1 X.2.1 hat ((X.2.2.2.2.2.1.2 0 _ rfl).1 (mL M a) (fun j => .int (mI M a j))) (fun q => by cases q) (by show ¬ (i < 0 ∨ (arrV _ _ _).slots.size ≤ _); rw [arrV_size]; exact hin) rfl rfl hd fun H1 e z oq => ?_
  refine kk H1 _ ls (gW_set hW hTn ?_ z oq rfl rfl (fun b hb => gE_wI hb)) (hS.put z oq (hW.2.2.2 a hTn).1) hl
  rw [gE_int (M := wI M a i.toNatClampNeg v) hT]
  show H1[a]? = some (vp_cell _ _)
  rw [e]
  rw [vp_cell_i, vp_cell_i, arrV_store]
  congr 2
  funext q
  by_cases hq : q = i.toNatClampNeg
  · subst hq
    simp [updV, wI, mI, up2]
  · simp [updV, wI, mI, up2, hq]
theorem g_bast {a : Nat} {r : Option Nat} {i v : Int32} (X : gX p s m args meth c D cy B Fs own cc ws nL) (hd : decode cc pc = .ok (.bastore, 1)) (ha : r = some a) (hT : mT M a = 22) (hin : vp_in i (mL M a)) (kk : gGo p l e R s m args below meth c D cy B H0 nL k n Q (pc + 1) (lv) (st) (wI M a i.toNatClampNeg (vp_nar .byte v))) : gGo p l e R s m args below meth c D cy B H0 nL k n Q (pc) (lv) (vI v :: vI i :: vR r :: st) (M) := fun H locs ls hW hS hl => by
  subst ha
  have hTn : mT M a ≠ 0 := by omega
  have hat := (hW.2.2.2 a hTn).2
  rw [gE_byte hT] at hat
  refine W.bast X.1 X.2.1 hat ((X.2.2.2.2.2.1.2 2 _ rfl).1 (mL M a) (fun j => .int (mI M a j))) (fun q => by cases q) (by show ¬ (i < 0 ∨ (arrV _ _ _).slots.size ≤ _); rw [arrV_size]; exact hin) rfl rfl hd fun H1 e z oq => ?_
  refine kk H1 _ ls (gW_set hW hTn ?_ z oq rfl rfl (fun b hb => gE_wI hb)) (hS.put z oq (hW.2.2.2 a hTn).1) hl
  rw [gE_byte (M := wI M a i.toNatClampNeg (vp_nar .byte v)) hT]
  show H1[a]? = some (vp_cell _ _)
  rw [e]
  rw [vp_cell_i, vp_cell_i, arrV_store]
  congr 2
  funext q
  by_cases hq : q = i.toNatClampNeg
  · subst hq
    simp [updV, wI, mI, up2, vp_nar]
    try rfl
  · simp [updV, wI, mI, up2, hq]
theorem g_last {a : Nat} {r : Option Nat} {i : Int32} {v : Int64} (X : gX p s m args meth c D cy B Fs own cc ws nL) (hd : decode cc pc = .ok (.lastore, 1)) (ha : r = some a) (hT : mT M a = 21) (hin : vp_in i (mL M a)) (kk : gGo p l e R s m args below meth c D cy B H0 nL k n Q (pc + 1) (lv) (st) (wJ M a i.toNatClampNeg v)) : gGo p l e R s m args below meth c D cy B H0 nL k n Q (pc) (lv) (vJ v :: vI i :: vR r :: st) (M) := fun H locs ls hW hS hl => by
  subst ha
  have hTn : mT M a ≠ 0 := by omega
  have hat := (hW.2.2.2 a hTn).2
  rw [gE_long hT] at hat
  refine W.last X.1 X.2.1 hat ((X.2.2.2.2.2.1.2 1 _ rfl).1 (mL M a) (fun j => .long (mJ M a j))) (fun q => by cases q) (by show ¬ (i < 0 ∨ (arrV _ _ _).slots.size ≤ _); rw [arrV_size]; exact hin) rfl rfl hd fun H1 e z oq => ?_
  refine kk H1 _ ls (gW_set hW hTn ?_ z oq rfl rfl (fun b hb => gE_wJ hb)) (hS.put z oq (hW.2.2.2 a hTn).1) hl
  rw [gE_long (M := wJ M a i.toNatClampNeg v) hT]
  show H1[a]? = some (vp_cell _ _)
  rw [e]
  rw [vp_cell_l, vp_cell_l, arrV_store]
  congr 2
  funext q
  by_cases hq : q = i.toNatClampNeg
  · subst hq
    simp [updV, wJ, mJ, up2]
  · simp [updV, wJ, mJ, up2, hq]
/-- a reference to a cell of ours into an array of its class -/
theorem g_aast {a t t0 b ci : Nat} {C : vw_C} {r v : Option Nat} {i : Int32} (X : gX p s m args meth c D cy B Fs own cc ws nL) (hd : decode cc pc = .ok (.aastore, 1)) (ha : r = some a) (hT : mT M a = t) (ht : 23 ≤ t ∧ t < 29) (hty : (gTys cy)[t0]? = some (cy t, .object C.1)) (hin : vp_in i (mL M a)) (hv : v = some b) (hb : mT M b = ci + 1) (hlt : ci + 1 < 20) (hc : vwCl[ci]? = some C) (kk : gGo p l e R s m args below meth c D cy B H0 nL k n Q (pc + 1) (lv) (st) (wR M a i.toNatClampNeg v)) : gGo p l e R s m args below meth c D cy B H0 nL k n Q (pc) (lv) (vR v :: vI i :: vR r :: st) (M) := fun H locs ls hW hS hl => by
  subst ha
  subst hv
  have hTn : mT M a ≠ 0 := by omega
  have hat := (hW.2.2.2 a hTn).2
  rw [gE_ref hT ht] at hat
  have hbt := (hW.2.2.2 b (by omega)).2
  rw [gE_obj hb hlt] at hbt
  have hi : i.toNatClampNeg < mL M a := Nat.not_le.mp fun q => hin (Or.inr q)
  have h0 : ¬ i < 0 := fun q => hin (Or.inl q)
  obtain ⟨r', hr', cellV, g1, g2, g3, -⟩ := hbt
  have hcls := (X.2.2.2.2.2.1.1 ci C hc).2
  obtain ⟨kA, comp, k1, k2, k3, -⟩ := (X.2.2.2.2.2.1.2 t0 _ hty).2
  have hcomp : comp = D.1 ci := Option.some.inj (k3.symm.trans hcls.1)
  subst hcomp
  obtain ⟨kC, hkC, -⟩ := id hcls.2
  refine W.aast X.1 X.2.1 hat (fun q h => by cases h) (fun h => by cases h) k1 k2 rfl hkC ⟨h0, by show _ < (arrV _ _ _).slots.size; rw [arrV_size]; exact hi⟩ g1 (fun q h => by rw [g3] at h; cases h) (by rw [g2]; exact hkC) (by rw [g2]; exact va_assign hcls) rfl rfl hd fun H1 e z oq => ?_
  refine kk H1 _ ls (gW_set hW hTn ?_ z oq rfl rfl (fun b hb => gE_wR hb)) (hS.put z oq (hW.2.2.2 a hTn).1) hl
  rw [gE_ref (M := wR M a i.toNatClampNeg (some b)) hT ht]
  show H1[a]? = some (vp_cell _ _)
  rw [e]
  rw [vp_cell_q, vp_cell_q, arrV_store]
  congr 2
  funext q
  by_cases hq : q = i.toNatClampNeg
  · subst hq
    simp [updV, wR, mR, up2, va_rf]
  · simp [updV, wR, mR, up2, hq]
end GROW
