/-! What holds of the statics: enum constants, two rows, the words of nest mates; helpers of the generated parts -/
def gNs : List Cond := [Cond.fieldLinkNest "TideLots$Tape" (85 : Nat) "TideLots" "SIGNS" "[LTideLots$Sign;" "TideLots", Cond.methodLinkNest "TideLotsLaw" (117 : Nat) ({ cls := "TideLotsLaw$Sim", name := "<init>", desc := "()V" } : MethodName) "TideLotsLaw", Cond.methodLinkNest "TideLots$Shore" (56 : Nat) ({ cls := "TideLots$Ground", name := "<init>", desc := "()V" } : MethodName) "TideLots", Cond.methodLinkNest "TideLots$Shore" (61 : Nat) ({ cls := "TideLots$Fisher", name := "<init>", desc := "()V" } : MethodName) "TideLots", Cond.methodLinkNest "TideLots$Shore" (66 : Nat) ({ cls := "TideLots$Pact", name := "<init>", desc := "()V" } : MethodName) "TideLots", Cond.methodLinkNest "TideLots$Shore" (71 : Nat) ({ cls := "TideLots$Go", name := "<init>", desc := "()V" } : MethodName) "TideLots"]
abbrev gNm : List String := ["GROUND", "ROOM", "FISH", "FISHER", "MESH", "NET", "HOLD", "GO", "TO", "WHEN", "PACT", "OF", "SPLIT", "SPARE", "BELOW", "TIDE", "STORE", "CATCH", "BOATS", "CHEATS", "NOT", "AND", "OR", "MIN", "MAX", "OPEN", "CLOSE", "OPEN_TEST", "CLOSE_TEST", "SEMICOLON", "COMMA", "PLUS", "MINUS", "TIMES", "OVER", "LESS", "GREATER", "EQUAL", "AT_MOST", "AT_LEAST", "NAME", "NUMBER", "END", "NO_TOKEN", "NEGATE"]
abbrev gOrd : List Int32 := [0, 1, 2, 3, 4, 5, 6, 7, 8, 9, 10, 11, 12, 13, 14, 15, 16, 17, 18, 19, 20, 21, 22, 23, 24, 25, 26, 27, 28, 29, 30, 31, 32, 33, 34, 35, 36, 37, 38, 39, 40, 41, 42, 43, 44]
def gSwL : List Int32 := [1, 0, 18, 2, 17, 0, 0, 3, 0, 0, 4, 0, 0, 0, 0, 14, 15, 16, 19, 7, 5, 28, 29, 22, 23, 21, 0, 6, 0, 0, 0, 25, 20, 26, 27, 8, 9, 10, 11, 12, 0, 13, 0, 0, 24]
def gSw (i : Nat) : Int32 := gSwL.getD i 0
def gSl : List Nat := [6, 4, 4, 6, 4, 3, 4, 2, 2, 4, 4, 2, 5, 5, 5, 4, 5, 5, 5, 6, 3, 3, 2, 3, 3, 1, 1, 1, 1, 1, 1, 1, 1, 1, 1, 1, 1, 1, 2, 2, 0, 0, 0, 0, 0, 1, 1, 11, 2, 12, 1, 10, 17, 13, 10, 3, 11, 3, 17, 16, 7, 3, 5, 13, 10, 7, 1, 0, 6, 3, 4, 6, 1, 8, 1, 22, 8, 6, 6, 1, 1, 3, 8, 6, 5, 6, 4, 5, 2, 6, 4, 7, 8, 7]
def gSb : List (List Int32) := [[103, 114, 111, 117, 110, 100], [114, 111, 111, 109], [102, 105, 115, 104], [102, 105, 115, 104, 101, 114], [109, 101, 115, 104], [110, 101, 116], [104, 111, 108, 100], [103, 111], [116, 111], [119, 104, 101, 110], [112, 97, 99, 116], [111, 102], [115, 112, 108, 105, 116], [115, 112, 97, 114, 101], [98, 101, 108, 111, 119], [116, 105, 100, 101], [115, 116, 111, 114, 101], [99, 97, 116, 99, 104], [98, 111, 97, 116, 115], [99, 104, 101, 97, 116, 115], [110, 111, 116], [97, 110, 100], [111, 114], [109, 105, 110], [109, 97, 120], [40], [41], [91], [93], [59], [44], [43], [45], [42], [47], [60], [62], [61], [60, 61], [62, 61], [], [], [], [], [], [103], [102], [32, 119, 104, 101, 110, 32, 102, 105, 115, 104, 32], [62, 61], [32, 119, 104, 101, 110, 32, 98, 111, 97, 116, 115, 32], [60], [32, 97, 110, 100, 32, 116, 105, 100, 101, 62], [32, 119, 104, 101, 110, 32, 110, 111, 116, 32, 99, 104, 101, 97, 116, 115, 32], [32, 119, 104, 101, 110, 32, 91, 115, 116, 111, 114, 101, 32], [32, 111, 114, 32, 99, 97, 116, 99, 104, 32], [61, 48, 93], [32, 119, 104, 101, 110, 32, 109, 101, 115, 104, 32], [32, 62, 32], [32, 111, 114, 32, 116, 105, 100, 101, 47, 51, 42, 51, 61, 116, 105, 100, 101], [32, 119, 104, 101, 110, 32, 109, 105, 110, 40, 115, 116, 111, 114, 101, 32], [44, 115, 116, 111, 114, 101, 32], [41, 60, 61], [45, 116, 105, 100, 101], [32, 119, 104, 101, 110, 32, 99, 104, 101, 97, 116, 115, 32], [32, 97, 110, 100, 32, 102, 105, 115, 104, 32], [45, 98, 111, 97, 116, 115, 32], [62], [], [102, 105, 115, 104, 32, 103], [47, 50, 43], [109, 97, 120, 40], [44, 116, 105, 100, 101, 42], [41], [45, 115, 116, 111, 114, 101, 32, 102], [40], [42, 57, 57, 57, 57, 57, 42, 57, 57, 57, 57, 57, 41, 47, 40, 116, 105, 100, 101, 45, 51, 41], [103, 114, 111, 117, 110, 100, 32, 103], [32, 114, 111, 111, 109, 32], [32, 102, 105, 115, 104, 32], [44], [59], [32, 59, 10], [102, 105, 115, 104, 101, 114, 32, 102], [32, 109, 101, 115, 104, 32], [32, 110, 101, 116, 32], [32, 104, 111, 108, 100, 32], [103, 111, 32, 102], [32, 116, 111, 32, 103], [59, 10], [112, 97, 99, 116, 32, 112], [32, 111, 102, 32], [32, 115, 112, 108, 105, 116, 59], [32, 115, 112, 97, 114, 101, 32, 103], [32, 98, 101, 108, 111, 119, 32]]
def sLn (i : Nat) : Nat := gSl.getD i 0
def sBy (i j : Nat) : Int32 := (gSb.getD i []).getD j 0
/-- the bytes of DigitOnes and DigitTens -/
def gDo (i : Nat) : Int32 := Int32.ofNat (48 + i % 10)
def gDt (i : Nat) : Int32 := Int32.ofNat (48 + i / 10)
def zopt (n : Nat) : Option Nat := if n = 0 then none else some (n - 1)
def gSr (Z : Nat → Nat) (B : Nat) (H0 : Heap) (U : State) : Prop := (∀ i : Nat, i < 94 → va_O "java/lang/String" (Z (100 + i)) (gA B) U H0 ∧ va_OF "java/lang/String" "coder" "B" (.int 0) (Z (100 + i)) (gA B) U H0 ∧ va_OF "java/lang/String" "value" "[B" (.ref (Z (300 + i))) (Z (100 + i)) (gA B) U H0 ∧ va_T .byte (Z (300 + i)) (sLn i) (fun j => .int (sBy i j)) (gA B) U H0) ∧ va_Z "java/lang/String" "COMPACT_STRINGS" "Z" (.int 1) (gA B) U H0 ∧ va_Z "jdk/internal/util/Preconditions" "SIOOBE_FORMATTER" "Ljava/util/function/BiFunction;" (va_rf (zopt (Z 48))) (gA B) U H0
def gSt (Z : Nat → Nat) (B : Nat) (H0 : Heap) : State → Prop := fun U =>
  va_En "TideLots$Sign" "LTideLots$Sign;" gNm [("java/lang/Enum", "ordinal", "I", gOrd)] Z (gA B) U H0 ∧
  va_Z "TideLots" "SIGNS" "[LTideLots$Sign;" (.ref (Z 45)) (gA B) U H0 ∧ va_T (.object "TideLots$Sign") (Z 45) 45 (fun i => .ref (Z i)) (gA B) U H0 ∧
  va_Z "TideLots$1" "$SwitchMap$TideLots$Sign" "[I" (.ref (Z 46)) (gA B) U H0 ∧ va_T .int (Z 46) 45 (fun i => .int (gSw i)) (gA B) U H0 ∧
  (va_Z "java/lang/Integer" "DigitOnes" "[B" (.ref (Z 49)) (gA B) U H0 ∧ va_T .byte (Z 49) 100 (fun i => .int (gDo i)) (gA B) U H0) ∧ (va_Z "java/lang/Integer" "DigitTens" "[B" (.ref (Z 50)) (gA B) U H0 ∧ va_T .byte (Z 50) 100 (fun i => .int (gDt i)) (gA B) U H0) ∧
  (∃ cS, U.vm.findClass "TideLots$Sign" = some cS ∧ U.vm.assignable cS cS = true) ∧
  (∀ i, i < 45 → va_OF "TideLots$Sign" "text" "Ljava/lang/String;" (.ref (Z (100 + i))) (Z i) (gA B) U H0) ∧
  (∀ w ∈ gNs, va_Nw w U) ∧ gSr Z B H0 U
/-- the place of an enum constant -/
def ordZ (Z : Nat → Nat) (r : Option Nat) : Option Nat := (List.range 45).find? (fun i => decide (r = some (Z i)))
theorem ordZ_eq {Z : Nat → Nat} {r : Option Nat} {i : Nat} (h : ordZ Z r = some i) : r = some (Z i) := by
  have := List.find?_some h
  simpa using this
theorem ordZ_lt {Z : Nat → Nat} {r : Option Nat} {i : Nat} (h : ordZ Z r = some i) : i < 45 := List.mem_range.mp (List.mem_of_find?_eq_some h)
theorem gnO (C : String) (v : Option Nat) : narrow (.object C) (va_rf v) = va_rf v := by cases v <;> rfl
theorem gfO (C : String) (v : Option Nat) : fits (.object C) (va_rf v) = true := by cases v <;> rfl
theorem gnA (t : FieldType) (v : Option Nat) : narrow (.array t) (va_rf v) = va_rf v := by cases v <;> rfl
theorem gfA (t : FieldType) (v : Option Nat) : fits (.array t) (va_rf v) = true := by cases v <;> rfl
theorem gfb {x : Int32} (h : x = 0 ∨ x = 1) : fits .boolean (.int x) = true := by rcases h with rfl | rfl <;> rfl
theorem gin_nn {i : Int32} {n : Nat} (h : inb i n) : ¬ i < 0 := fun q => h (Or.inl q)
theorem gin_lt {i : Int32} {n : Nat} (h : inb i n) : i.toNatClampNeg < n := Nat.not_le.mp fun q => h (Or.inr q)
theorem gord_nn {i : Nat} (h : i < 45) : ¬ nI i < 0 := nI_pos (by omega)
theorem gord_lt {i : Nat} (h : i < 45) : (nI i).toNatClampNeg < 45 := by rw [nI_clamp (by omega)]; exact h
theorem gord_sw {i : Nat} (h : i < 45) : (fun i => Value.int (gSw i)) (nI i).toNatClampNeg = .int (gSw i) := by rw [nI_clamp (by omega)]
theorem gtab_out {v : Int32} (n : Nat) (lo : Int) (h1 : -1000 ≤ lo) (h2 : lo + n ≤ 1000) (h : ∀ i : Nat, i < n → v ≠ Int32.ofInt (lo + i)) : v.toInt < lo ∨ lo + n - 1 < v.toInt := by
  rcases Int.lt_or_le v.toInt lo with q | q
  · exact Or.inl q
  · rcases Int.lt_or_le (lo + n - 1) v.toInt with q2 | q2
    · exact Or.inr q2
    · exfalso
      refine h (v.toInt - lo).toNat (by omega) ?_
      rw [show lo + ((v.toInt - lo).toNat : Int) = v.toInt by omega, Int32.ofInt_toInt]
section GST
variable {p : Program} {l : Launch} {e : Env} {R : Room} {s : State} {m : MethodId} {args : Array Value} {below : List Frame} {meth : Method} {c : Code} {D : va_G} {cy : Nat → ClassId} {B : Nat} {H0 : Heap} {Z : Nat → Nat} {own : String} {cc : ByteArray} {ws : List Cond} {nL k n pc : Nat} {Q : State → Prop} {lv lv' : List (Nat × gV)} {st stk : List gV} {M M1 : gMem}
theorem g_eqQ {Q' : State → Prop} (h : Q = Q') (kk : gGo p l e R s m args below meth c D cy B H0 nL k n (Q') (pc) (lv) (st) (M)) : gGo p l e R s m args below meth c D cy B H0 nL k n Q (pc) (lv) (st) (M) := h ▸ kk
theorem gSt_E (X : gX p s m args meth c D cy B (gSt Z B H0) own cc ws nL) (i : Nat) (h : i < 45) : va_Z "TideLots$Sign" (gNm.getD i "") "LTideLots$Sign;" (gv (vR (some (Z i)))) (gA B) s H0 := ((gX_st X).1.1 i h).1
theorem gSt_O (X : gX p s m args meth c D cy B (gSt Z B H0) own cc ws nL) {i : Nat} (h : i < 45) : va_O "TideLots$Sign" (Z i) (gA B) s H0 := ((gX_st X).1.1 i h).2.1
theorem gSt_ord (X : gX p s m args meth c D cy B (gSt Z B H0) own cc ws nL) {i : Nat} (h : i < 45) : va_OF "java/lang/Enum" "ordinal" "I" (.int (gOrd.getD i 0)) (Z i) (gA B) s H0 := ((gX_st X).1.1 i h).2.2 ("java/lang/Enum", "ordinal", "I", gOrd) List.mem_cons_self
theorem gSt_inj (X : gX p s m args meth c D cy B (gSt Z B H0) own cc ws nL) {i j : Nat} (h : i < 45) (h' : j < 45) (e : Z i = Z j) : i = j := (gX_st X).1.2 i j h h' e
theorem gSt_SG (X : gX p s m args meth c D cy B (gSt Z B H0) own cc ws nL) : va_Z "TideLots" "SIGNS" "[LTideLots$Sign;" (gv (vR (some (Z 45)))) (gA B) s H0 := (gX_st X).2.1
theorem gSt_T45 (X : gX p s m args meth c D cy B (gSt Z B H0) own cc ws nL) : va_T (.object "TideLots$Sign") (Z 45) 45 (fun i => .ref (Z i)) (gA B) s H0 := (gX_st X).2.2.1
theorem gSt_SW (X : gX p s m args meth c D cy B (gSt Z B H0) own cc ws nL) : va_Z "TideLots$1" "$SwitchMap$TideLots$Sign" "[I" (gv (vR (some (Z 46)))) (gA B) s H0 := (gX_st X).2.2.2.1
theorem gSt_SWt (X : gX p s m args meth c D cy B (gSt Z B H0) own cc ws nL) : va_T .int (Z 46) 45 (fun i => .int (gSw i)) (gA B) s H0 := (gX_st X).2.2.2.2.1
theorem gSt_DO (X : gX p s m args meth c D cy B (gSt Z B H0) own cc ws nL) : va_Z "java/lang/Integer" "DigitOnes" "[B" (gv (vR (some (Z 49)))) (gA B) s H0 := (gX_st X).2.2.2.2.2.1.1
theorem gSt_T49 (X : gX p s m args meth c D cy B (gSt Z B H0) own cc ws nL) : va_T .byte (Z 49) 100 (fun i => .int (gDo i)) (gA B) s H0 := (gX_st X).2.2.2.2.2.1.2
theorem gSt_DT (X : gX p s m args meth c D cy B (gSt Z B H0) own cc ws nL) : va_Z "java/lang/Integer" "DigitTens" "[B" (gv (vR (some (Z 50)))) (gA B) s H0 := (gX_st X).2.2.2.2.2.2.1.1
theorem gSt_T50 (X : gX p s m args meth c D cy B (gSt Z B H0) own cc ws nL) : va_T .byte (Z 50) 100 (fun i => .int (gDt i)) (gA B) s H0 := (gX_st X).2.2.2.2.2.2.1.2
theorem gSt_tx (X : gX p s m args meth c D cy B (gSt Z B H0) own cc ws nL) {i : Nat} (h : i < 45) : va_OF "TideLots$Sign" "text" "Ljava/lang/String;" (gv (vR (some (Z (100 + i))))) (Z i) (gA B) s H0 := (gX_st X).2.2.2.2.2.2.2.2.1 i h
theorem gNw (X : gX p s m args meth c D cy B (gSt Z B H0) own cc ws nL) (w : Cond) (h : w ∈ gNs) : va_Nw w s := (gX_st X).2.2.2.2.2.2.2.2.2.1 w h
theorem gSt_sO (X : gX p s m args meth c D cy B (gSt Z B H0) own cc ws nL) {i : Nat} (h : i < 94) : va_O "java/lang/String" (Z (100 + i)) (gA B) s H0 := ((gX_st X).2.2.2.2.2.2.2.2.2.2.1 i h).1
theorem gSt_sc (X : gX p s m args meth c D cy B (gSt Z B H0) own cc ws nL) {i : Nat} (h : i < 94) : va_OF "java/lang/String" "coder" "B" (gv (vI 0)) (Z (100 + i)) (gA B) s H0 := ((gX_st X).2.2.2.2.2.2.2.2.2.2.1 i h).2.1
theorem gSt_sv (X : gX p s m args meth c D cy B (gSt Z B H0) own cc ws nL) {i : Nat} (h : i < 94) : va_OF "java/lang/String" "value" "[B" (gv (vR (some (Z (300 + i))))) (Z (100 + i)) (gA B) s H0 := ((gX_st X).2.2.2.2.2.2.2.2.2.2.1 i h).2.2.1
theorem gSt_sb (X : gX p s m args meth c D cy B (gSt Z B H0) own cc ws nL) {i : Nat} (h : i < 94) : va_T .byte (Z (300 + i)) (sLn i) (fun j => .int (sBy i j)) (gA B) s H0 := ((gX_st X).2.2.2.2.2.2.2.2.2.2.1 i h).2.2.2
theorem gSt_CS (X : gX p s m args meth c D cy B (gSt Z B H0) own cc ws nL) : va_Z "java/lang/String" "COMPACT_STRINGS" "Z" (gv (vI 1)) (gA B) s H0 := (gX_st X).2.2.2.2.2.2.2.2.2.2.2.1
theorem gSt_SI (X : gX p s m args meth c D cy B (gSt Z B H0) own cc ws nL) : va_Z "jdk/internal/util/Preconditions" "SIOOBE_FORMATTER" "Ljava/util/function/BiFunction;" (gv (vR (zopt (Z 48)))) (gA B) s H0 := (gX_st X).2.2.2.2.2.2.2.2.2.2.2.2
theorem g_baldT {t N : Nat} {f : Nat → Value} {r : Option Nat} {i w : Int32} (X : gX p s m args meth c D cy B (gSt Z B H0) own cc ws nL) (hTt : va_T .byte t N f (gA B) s H0) (hr : r = some t) (hi : ¬ i < 0) (hlt : i.toNatClampNeg < N) (hw : f i.toNatClampNeg = .int w) (hd : decode cc pc = .ok (.baload, 1)) (kk : gGo p l e R s m args below meth c D cy B H0 nL k n Q (pc + 1) (lv) (vI w :: st) (M)) : gGo p l e R s m args below meth c D cy B H0 nL k n Q (pc) (lv) (vI i :: vR r :: st) (M) := fun H locs ls hW hS hl => by
  subst hr
  obtain ⟨cell, h1, h2, h3, h4, h5, h6, h7⟩ := hTt
  exact W.bald (v := .int w) X.1 X.2.1 (by rw [hW.2.2.1 t (Nat.not_le.mp h7)]; exact h1) h2 h3 (fun q => by rcases q with q | q; exact hi q; omega) (by rw [h6 _ hlt, hw]) rfl rfl hd (kk H locs ls hW hS hl)
theorem gnc {x : Int32} (h : i2cV x = x) : narrow .char (.int x) = .int x := congrArg Value.int h
theorem gny {x : Int32} (h : i2bV x = x) : narrow .byte (.int x) = .int x := congrArg Value.int h
/-- a static of a nest mate -/
theorem g_getsN {C nm ds ref host : String} {w : gV} {index : Nat} (X : gX p s m args meth c D cy B (gSt Z B H0) own cc ws nL) (hZ : va_Z C nm ds (gv w) (gA B) s H0) (hlk : va_Nw (Cond.fieldLinkNest own index ref nm ds host) s) (href : C = ref) (hd : decode cc pc = .ok (.getstatic index, 3)) (kk : gGo p l e R s m args below meth c D cy B H0 nL k n Q (pc + 3) (lv) (w :: st) (M)) : gGo p l e R s m args below meth c D cy B H0 nL k n Q (pc) (lv) (st) (M) := fun H locs ls hW hS hl => by
  subst href
  obtain ⟨cf, kf, fi, f, a, cell, h1, h2, h3, h4, h5, h6, h7, h8⟩ := hZ
  exact va_WgetsN X.1 X.2.1 X.2.2.2.1 (va_Nw.use rfl hlk) h1 h2 h3 h4 (by rw [hW.2.2.1 a (Nat.not_le.mp h8)]; exact h5) (fun e => by rw [e] at h6; cases h6) h7 rfl hd (kk H locs ls hW hS hl)
/-- an enum constant into a row of them -/
theorem g_aastE {a i : Nat} {r v : Option Nat} {ix : Int32} (X : gX p s m args meth c D cy B (gSt Z B H0) own cc ws nL) (hd : decode cc pc = .ok (.aastore, 1)) (ha : r = some a) (hT : mT M a = 27) (hin : inb ix (mL M a)) (hv : v = some (Z i)) (hi : i < 45) (kk : gGo p l e R s m args below meth c D cy B H0 nL k n Q (pc + 1) (lv) (st) (wR M a ix.toNatClampNeg v)) : gGo p l e R s m args below meth c D cy B H0 nL k n Q (pc) (lv) (vR v :: vI ix :: vR r :: st) (M) := fun H locs ls hW hS hl => by
  subst ha
  subst hv
  have hTn : mT M a ≠ 0 := by omega
  have hat := (hW.2.2.2 a hTn).2
  rw [gE_ref hT (by decide)] at hat
  have hlt : ix.toNatClampNeg < mL M a := gin_lt hin
  have h0 : ¬ ix < 0 := gin_nn hin
  obtain ⟨cellV, g1, g2, g3, g4⟩ := gSt_O X hi
  obtain ⟨cS, f1, f2⟩ := (gX_st X).2.2.2.2.2.2.2.1
  obtain ⟨kA, comp, k1, k2, k3, -⟩ := (X.2.2.2.2.2.1.2 7 _ rfl).2
  cases f1.symm.trans g3
  cases k3.symm.trans f1
  obtain ⟨kC, hkC, -⟩ := Vm.findClass_spec f1
  refine W.aast X.1 X.2.1 hat (fun q h => by cases h) (fun h => by cases h) k1 k2 rfl hkC ⟨h0, by show _ < (arrV _ _ _).slots.size; rw [arrV_size]; exact hlt⟩ (by rw [hW.2.2.1 (Z i) (Nat.not_le.mp g4)]; exact g1) (fun q h => by rw [h] at g2; cases g2) hkC f2 rfl rfl hd fun H1 e z oq => ?_
  refine kk H1 _ ls (gW_set hW hTn ?_ z oq rfl rfl (fun b hb => gE_wR hb)) (hS.put z oq (hW.2.2.2 a hTn).1) hl
  rw [gE_ref (M := wR M a ix.toNatClampNeg (some (Z i))) hT (by decide)]
  show H1[a]? = some (vp_cell _ _)
  rw [e]
  rw [vp_cell_q, vp_cell_q, arrV_store]
  congr 2
  funext q
  by_cases hq : q = ix.toNatClampNeg
  · subst hq
    simp [updV, wR, mR, up2, va_rf]
  · simp [updV, wR, mR, up2, hq]
abbrev rordinal : Room := { frames := 0, cells := 0, slots := 0, locals := 0 }
theorem gOrd_nI : ∀ i : Nat, i < 45 → gOrd.getD i 0 = nI i := by decide +kernel
theorem dJx29ce0_ordinal_8abf5_0 : decode cJx29ce0_ordinal_8abf5 0 = .ok (.aload_n 0, 1) := by decide +kernel
theorem dJx29ce0_ordinal_8abf5_1 : decode cJx29ce0_ordinal_8abf5 1 = .ok (.getfield 7, 3) := by decide +kernel
theorem dJx29ce0_ordinal_8abf5_4 : decode cJx29ce0_ordinal_8abf5 4 = .ok (.ireturn, 1) := by decide +kernel
set_option maxRecDepth 100000 in
theorem m_ordinal (l : Launch) {D : va_G} {cy : Nat → ClassId} {B : Nat} {H0 : Heap} {Z : Nat → Nat} {M : gMem} {i : Nat} (hi : i < 45) : Met l yJx29ce0_ordinal_8abf5 wsJx29ce0_ordinal_8abf5 rordinal (va_Pc (Value.ref (Z i) :: List.map gv []) (gPre D cy B H0 (gSt Z B H0) M)) (gQ D cy B H0 (some (vI (nI i))) M) 0 0 (gA B) := by
  refine Met.ofW (cc := cJx29ce0_ordinal_8abf5) (maxL := 1) (ret := (some .int)) (by decide) rfl ?_
  intro p e s m args below meth c s₁ Bd hml hv
  obtain ⟨rfl, hW, hKK, hF⟩ := hv
  have X : gX p s m _ meth c D cy B (gSt Z B H0) RJx29ce0 cJx29ce0_ordinal_8abf5 wsJx29ce0_ordinal_8abf5 1 := ⟨Bd.exec, Bd.bytes, atoms_spec (ws := wsJx29ce0_ordinal_8abf5) Bd.pre, findClass_of_methodNamed Bd.named, hml, hKK, by rw [hW.1]; exact hW.2.1, Bd.notSynchronized, hF⟩
  have hr := Bd.returns
  have hl := lv_entry ([.ref (Z i)]) (n := 1) (Nat.le_of_ble_eq_true rfl)
  show W p l e rordinal s m _ below meth c s.heap [] 0 0 _ (entryFrame m ([.ref (Z i)] : List Value).toArray 1)
  rw [lg_entry_eq]
  generalize (lg_sl ([.ref (Z i)]) ++ List.replicate (1 - (lg_sl ([.ref (Z i)])).length) Slot.unset).toArray = ls at hl ⊢
  have hl : lv_has ls 1 (List.map gq [(0, vR (some (Z i)))]) := hl
  have key : gGo p l e rordinal s m (Value.ref (Z i) :: List.map gv []).toArray below meth c D cy B H0 1 0 0 (gMQ below D cy B H0 (Value.ref (Z i) :: List.map gv []).toArray s 0 0 (some (vI (nI i))) M) 0 [(0, vR (some (Z i)))] [] M := by
    refine g_aload_n X dJx29ce0_ordinal_8abf5_0 rfl rfl ?_
    refine g_getO (w := vI (nI i)) X (by rw [← gOrd_nI i hi]; exact gSt_ord X hi) rfl (index := 7) (by decide +kernel) rfl dJx29ce0_ordinal_8abf5_1 ?_
    exact g_iret X hr dJx29ce0_ordinal_8abf5_4
  exact key s.heap [] ls hW va_S.rf hl
end GST
