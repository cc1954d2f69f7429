/-! ### mean: what a NaN compares like -/
theorem nan_bits {v : UInt64} (h : isNaN64 v = true) : 9218868437227405312 < v.toNat % 2 ^ 63 := by
  unfold isNaN64 at h
  have h1 := of_decide_eq_true h
  have h2 : (0x7ff0000000000000 : UInt64).toNat < (v &&& 0x7fffffffffffffff).toNat := h1
  rw [UInt64.toNat_and] at h2
  have h3 : (0x7fffffffffffffff : UInt64).toNat = 2 ^ 63 - 1 := rfl
  rw [h3, Nat.and_two_pow_sub_one_eq_mod] at h2
  exact h2
theorem nan_cmp {v w : UInt64} (h : isNaN64 v = true) : FP.dcmp v w = none := by
  have hb := nan_bits h
  have hd : FP.Core.decode FP.Core.b64 v.toNat = .nan := by
    unfold FP.Core.decode
    have h1 : FP.Core.fieldE FP.Core.b64 v.toNat = FP.Core.b64.exps - 1 := by
      show v.toNat / 4503599627370496 % 2048 = 2047
      omega
    have h2 : ¬ FP.Core.fieldT FP.Core.b64 v.toNat = 0 := by
      show ¬ v.toNat % 4503599627370496 = 0
      omega
    rw [if_pos h1, if_neg h2]
  show FP.Core.order (FP.Core.decode FP.Core.b64 v.toNat) (FP.Core.decode FP.Core.b64 w.toNat) = none
  rw [hd]
  rfl
theorem alike_cmp {v w r : UInt64} (hv : alike64 v r = true) (hw : alike64 w r = true) : v = w ∨ (isNaN64 v = true ∧ isNaN64 w = true) := by
  unfold alike64 at hv hw
  rw [Bool.or_eq_true, Bool.and_eq_true] at hv hw
  rcases hv with hv | ⟨hv, hr⟩
  · have hv := of_decide_eq_true hv
    rcases hw with hw | ⟨hw, hr⟩
    · exact .inl (hv.trans (of_decide_eq_true hw).symm)
    · exact .inr ⟨by rw [hv]; exact hr, hw⟩
  · rcases hw with hw | ⟨hw, -⟩
    · exact .inr ⟨hv, by rw [of_decide_eq_true hw]; exact hr⟩
    · exact .inr ⟨hv, hw⟩
/-- a mean: a over F -/
def mQ (F a : Int32) (v : UInt64) : Prop := if F = 0 then v = FP.dconst0 else alike64 v (FP.ddiv (FP.i2d a) (FP.i2d F)) = true
/-- the law's test of two means -/
theorem mQ_cmp {F a : Int32} {v w : UInt64} (hv : mQ F a v) (hw : mQ F a w) : Op.cmpValue (FP.dcmp v w) .l = 0 ∨ (Op.cmpValue (FP.dcmp v v) .l ≠ 0 ∧ Op.cmpValue (FP.dcmp w w) .l ≠ 0) := by
  have h : v = w ∨ (isNaN64 v = true ∧ isNaN64 w = true) := by
    unfold mQ at hv hw
    by_cases hF : F = 0
    · rw [if_pos hF] at hv hw
      exact .inl (hv.trans hw.symm)
    · rw [if_neg hF] at hv hw
      exact alike_cmp hv hw
  rcases h with rfl | ⟨h1, h2⟩
  · by_cases q : Op.cmpValue (FP.dcmp v v) .l = 0
    · exact .inl q
    · exact .inr ⟨q, q⟩
  · rw [nan_cmp h1, nan_cmp h1, nan_cmp h2]
    exact .inr ⟨by decide, by decide⟩

/-! ### mean: both methods -/
section GMEAN
variable {p : Program} {l : Launch} {e : Env} {R : Room} {s : State} {m : MethodId} {args : Array Value} {below : List Frame} {meth : Method} {c : Code} {D : va_G} {cy : Nat → ClassId} {B : Nat} {H0 : Heap} {Z : Nat → Nat} {Fs : State → Prop} {own : String} {cc : ByteArray} {ws : List Cond} {nL k n pc : Nat} {Q : State → Prop} {lv lv' : List (Nat × gV)} {st stk : List gV} {M M1 : gMem} {d0 : Drawn}
theorem g_i2d {x : Int32} (X : gX p s m args meth c D cy B Fs own cc ws nL) (hd : decode cc pc = .ok (.i2d, 1)) (kk : gGo p l e R s m args below meth c D cy B H0 nL k n Q (pc + 1) lv (vD (FP.i2d x) :: st) M) : gGo p l e R s m args below meth c D cy B H0 nL k n Q pc lv (vI x :: st) M := fun H locs ls hW hS hl => lv_i2d X.1 X.2.1 hd (kk H locs ls hW hS hl)
theorem g_dcon0 (X : gX p s m args meth c D cy B Fs own cc ws nL) (hd : decode cc pc = .ok (.dconst 0, 1)) (kk : gGo p l e R s m args below meth c D cy B H0 nL k n Q (pc + 1) lv (vD FP.dconst0 :: st) M) : gGo p l e R s m args below meth c D cy B H0 nL k n Q pc lv st M := fun H locs ls hW hS hl => lv_dconst0 X.1 X.2.1 hd (kk H locs ls hW hS hl)
theorem g_dcmp {x y : UInt64} {op : CmpOp} (X : gX p s m args meth c D cy B Fs own cc ws nL) (hd : decode cc pc = .ok (.dcmp op, 1)) (kk : gGo p l e R s m args below meth c D cy B H0 nL k n Q (pc + 1) lv (vI (Op.cmpValue (FP.dcmp x y) op) :: st) M) : gGo p l e R s m args below meth c D cy B H0 nL k n Q pc lv (vD y :: vD x :: st) M := fun H locs ls hW hS hl => lv_dcmp X.1 X.2.1 hd (kk H locs ls hW hS hl)
theorem g_ddivD {x y : UInt64} (hd0 : s.drawn.sameBut d0 lw_cs) (X : gX p (s.setDrawn d0) m args meth c D cy B Fs own cc ws nL) (hd : decode cc pc = .ok (.ddiv, 1)) (kk : ∀ (r : UInt64) (d1 : Drawn), alike64 r (FP.ddiv x y) = true → s.drawn.sameBut d1 lw_cs → gGo p l e R (s.setDrawn d1) m args below meth c D cy B H0 nL k n Q (pc + 1) lv (vD r :: st) M) : gGo p l e R (s.setDrawn d0) m args below meth c D cy B H0 nL k n Q pc lv (vD y :: vD x :: st) M := fun H locs ls hW hS hl => lv_ddiv_any hd0 lw_bits X.1 X.2.1 hd (fun r d1 ha h1 => kk r d1 ha h1 H locs ls hW hS hl)
/-- a method's end that answers a double -/
def gQd (D : va_G) (cy : Nat → ClassId) (B : Nat) (H0 : Heap) (P : UInt64 → Prop) (M : gMem) : Array Value → State → Outcome → State → Prop := fun _ st oc t =>
  ∃ v, P v ∧ oc = .returned (some (.double v)) ∧ gW D cy B H0 M t.heap ∧ st.heap.size ≤ t.heap.size
theorem g_dretD {P : UInt64 → Prop} {v : UInt64} (hd0 : s.drawn.sameBut d0 lw_cs) (X : gX p (s.setDrawn d0) m args meth c D cy B Fs own cc ws nL) (hr : meth.sig.returnType = some .double) (hP : P v) (hd : decode cc pc = .ok (.dreturn, 1)) : gGo p l e R (s.setDrawn d0) m args below meth c D cy B H0 nL k n (MQD lw_cs below (gQd D cy B H0 P M) args s k n (gA B)) pc lv [vD v] M := fun H locs ls hW hS hl =>
  W.endD hd0 (W.dret (v := v) X.1 X.2.1 hr (fun t ht hw => ⟨v, hP, rfl, by rw [ht]; exact hW, by rw [ht]; exact hS.1⟩) hS.2.2 hd X.2.2.2.2.2.2.2.1)
/-- the same place, whatever has been drawn -/
theorem gX_dr {F0 : State → Prop} (X : gX p s m args meth c D cy B F0 own cc ws nL) (d : Drawn) : gX p (s.setDrawn d) m args meth c D cy B F0 own cc ws nL := ⟨X.1, X.2.1, dr_words X.2.2.1 d, X.2.2.2.1, X.2.2.2.2.1, X.2.2.2.2.2.1, X.2.2.2.2.2.2.1, X.2.2.2.2.2.2.2.1, fun U h => X.2.2.2.2.2.2.2.2 U h⟩
end GMEAN
