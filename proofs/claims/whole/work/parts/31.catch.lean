/-! The law's helpers: calls in a method with an exception table -/
def gNcL : List (String × String) := [("java/lang/IllegalStateException", "java/lang/IllegalArgumentException"), ("java/lang/IllegalStateException", "java/lang/IndexOutOfBoundsException"), ("java/lang/IllegalArgumentException", "java/lang/IllegalStateException"), ("java/lang/IllegalArgumentException", "java/lang/IndexOutOfBoundsException"), ("java/lang/IndexOutOfBoundsException", "java/lang/IllegalStateException"), ("java/lang/IndexOutOfBoundsException", "java/lang/IllegalArgumentException")]
def gSt3 (Z : Nat → Nat) (B : Nat) (H0 : Heap) : State → Prop := fun U => gSt2 Z B H0 U ∧ ∀ q ∈ gNcL, va_Nc q.1 q.2 U
theorem vx_met {l : Launch} {y : MethodName} {ws : List Cond} {rm : Room} {Pc : Array Value → State → Prop} {Qc : Array Value → State → Outcome → State → Prop} {mc ms : Nat} {free : Addr → Prop} (h : vx_Met l y ws rm Pc Qc (fun _ _ _ => False) mc ms free) : Met l y ws rm Pc Qc mc ms free := by
  intro p e ha hc hk s m args below hf happ hP hKx
  obtain ⟨k, o, h1, h2, h3, hQ⟩ := h p e ha hc hk s m args below hf happ hP hKx
  refine ⟨k, o, h1, h2, h3, ?_⟩
  rcases hQ with hQ | ⟨q, -, E, ce, L, hF, -⟩
  · exact hQ
  · exact hF.elim
section G4
variable {p : Program} {l : Launch} {e : Env} {R : Room} {s : State} {m : MethodId} {args : Array Value} {below : List Frame} {meth : Method} {c : Code} {D : va_G} {cy : Nat → ClassId} {B : Nat} {H0 : Heap} {Z : Nat → Nat} {Fs : State → Prop} {own : String} {cc : ByteArray} {ws : List Cond} {nL k n pc : Nat} {Q : State → Prop} {lv lv' : List (Nat × gV)} {st stk : List gV} {M M1 : gMem}
theorem gX_w3 (X : gX p s m args meth c D cy B (gSt3 Z B H0) own cc ws nL) : gX p s m args meth c D cy B (gSt2 Z B H0) own cc ws nL := ⟨X.1, X.2.1, X.2.2.1, X.2.2.2.1, X.2.2.2.2.1, X.2.2.2.2.2.1, X.2.2.2.2.2.2.1, X.2.2.2.2.2.2.2.1, fun U h => (X.2.2.2.2.2.2.2.2 U h).1⟩
abbrev gMF (below : List Frame) (Qc : Array Value → State → Outcome → State → Prop) (B : Nat) (args : Array Value) (s : State) (k n : Nat) : State → Prop := vx_MQ below Qc (fun _ _ _ => False) args s k n (gA B)
/-- the answer v and the memory M, but for how many cells there are now -/
def gQN (D : va_G) (cy : Nat → ClassId) (B : Nat) (H0 : Heap) (v : Option gV) (M : gMem) : Array Value → State → Outcome → State → Prop := fun a st oc t => ∃ N, mN M ≤ N ∧ gQ D cy B H0 v (sN M N) a st oc t
theorem g_vxF {v : Option gV} (kk : gGo p l e R s m args below meth c D cy B H0 nL k n (gMQ below D cy B H0 args s k n v M1) (pc) (lv) (st) (M)) : gGo p l e R s m args below meth c D cy B H0 nL k n (gMF below (gQ D cy B H0 v M1) B args s k n) (pc) (lv) (st) (M) := fun H locs ls hW hS hl => vx_ret (kk H locs ls hW hS hl)
theorem g_vxFN {v : Option gV} {N : Nat} (hN : mN M1 ≤ N) (kk : gGo p l e R s m args below meth c D cy B H0 nL k n (gMQ below D cy B H0 args s k n v (sN M1 N)) (pc) (lv) (st) (M)) : gGo p l e R s m args below meth c D cy B H0 nL k n (gMF below (gQN D cy B H0 v M1) B args s k n) (pc) (lv) (st) (M) := fun H locs ls hW hS hl => vx_ret fun T hT X => by
  obtain ⟨t, a1, o, b1, b2, b3, b4⟩ := kk H locs ls hW hS hl T hT X
  exact ⟨t, a1, o, b1, b2, ⟨N, hN, b3⟩, b4⟩
theorem g_runC {x : Nat} {st0 : List gV} {mc ms : Nat} {a : Array Value} {name : String} (X0 : gX p s m args meth c D cy B Fs own cc ws nL) (pre : List ExceptionTableEntry) (en : ExceptionTableEntry) (suf : List ExceptionTableEntry) (hsplit : c.exceptionTable.toList = pre ++ en :: suf) (hpass : ∀ z ∈ pre, covers z pc = false ∨ (z.catchType ≠ 0 ∧ ∃ nm : String, (Cond.classLink own z.catchType nm).before args s = true ∧ va_Nc (exName x) nm s)) (hcov : covers en pc = true) (h0 : en.catchType ≠ 0) (hlink : Cond.classLink own en.catchType name ∈ ws) (hcast : (Cond.castable (exName x) name).before args s = true)
    (hr : ∀ (H : Heap) (locs : List Loc) (ls : Array Slot), gW D cy B H0 M H → va_S (gA B) s.heap H locs → lv_has ls nL (lv.map gq) → vx_Run p l e R s m args below meth c H locs k n mc ms (F0 m pc ls (st0.map gv)) (st.map gv) (gQX D cy B H0 (.inl x) M1 a) (gXC D cy B H0 (.inl x) M1) (gA B))
    (kk : ∀ (q N : Nat), mN M1 ≤ N → gGo p l e R s m args below meth c D cy B H0 nL (k + mc) (n + ms) Q (en.handlerPc) (lv) ([vR (some q)]) (sN M1 N)) : gGo p l e R s m args below meth c D cy B H0 nL k n Q (pc) (lv) (st0) (M) := fun H locs ls hW hS hl => by
  intro T hT X
  rcases hr H locs ls hW hS hl T hT X with ⟨v', st₀, t, T', L, h0, X', hL, e1, e2, ⟨w, hw, hq⟩, hst⟩ | ⟨q, st₀, t, T', L, E, ce, h0', X', hL, e1, e2, ⟨x', hx, hE, hz, N, hN, hw⟩, hce, hcv, hcl, hst⟩
  · cases hw
  · cases hx
    subst hE
    rw [h0'] at hz
    have hS' : va_S (gA B) s.heap T'.heap (locs ++ L) := ⟨Nat.le_trans hS.1 (by rw [e1]; exact hz), fun q h1 h2 => by
      have hq : q < B := Nat.not_le.mp h2
      rw [e1, hw.2.2.1 q hq, ← hS.2.1 q h1 h2, hW.2.2.1 q hq], fun q hq => by
        rcases List.mem_append.mp hq with h | h
        · exact hS.2.2 q h
        · exact hL q h⟩
    have hk := kk q N hN T'.heap (locs ++ L) ls (by rw [e1]; exact hw) hS' hl
    obtain ⟨t2, a1, b1⟩ := vx_catch (rest := st.map gv) X0.2.2.2.1 pre en suf hsplit hpass hcov h0 (X0.2.2.1 _ hlink) hcast (by rw [e1]; exact hce) hcv hcl hk T' rfl X'
    exact ⟨t2, hst.trans a1, b1⟩
end G4
