def wsL_law0_r1 : List Cond := [Cond.classLink RL 32 RJ4, Cond.instantiable RJ4 4, Cond.initialized RJ4, Cond.classLink RL 10 RX11, Cond.instantiable RX11 4, Cond.initialized RX11, Cond.classLink RL 212 "[[I", Cond.arrayClass .int, Cond.arrayClass .boolean, Cond.fieldLink RL 181 "TideLotsLaw$Sim" "member" "[[I", Cond.fieldLink RL 155 "TideLotsLaw$Sim" "goes" "I", Cond.fieldLink RL 158 "TideLotsLaw$Sim" "go" "[[I", Cond.methodLink RL 34 yJ4_init_da8c8, Cond.instanceMethod yJ4_init_da8c8, Cond.code yJ4_init_da8c8 cJ4_init_da8c8 1 none, Cond.methodLink RJ4 1 yJ5_init_d00df, Cond.instanceMethod yJ5_init_d00df, Cond.initialized RJ5, Cond.code yJ5_init_d00df cJ5_init_d00df 2 none, Cond.methodLink RJ5 3 objectInit, Cond.instanceMethod objectInit, Cond.code objectInit ⟨#[0xb1]⟩ 1 none, Cond.fieldLink RJ5 18 "java/lang/String" "COMPACT_STRINGS" "Z", Cond.arrayClass .byte]
def wsL_law0_r2 : List Cond := [Cond.fieldLink RJ5 15 "java/lang/AbstractStringBuilder" "value" "[B", Cond.fieldLink RJ5 22 "java/lang/AbstractStringBuilder" "coder" "B", Cond.methodLink RJ5 26 yJ2_newBytesFor_77867, Cond.static yJ2_newBytesFor_77867, Cond.initialized RJ2, Cond.code yJ2_newBytesFor_77867 cJ2_newBytesFor_77867 1 (some (.array .byte)), Cond.methodLink RJ2 11 yJ2_newBytesLength_0f7a4, Cond.static yJ2_newBytesLength_0f7a4, Cond.code yJ2_newBytesLength_0f7a4 cJ2_newBytesLength_0f7a4 1 (some .int), Cond.constant RJ2 20 (1073741823), Cond.methodLink RL 194 yL_shore, Cond.static yL_shore, Cond.initialized RL, Cond.code yL_shore cL_shore 9 (some (.object "TideLotsLaw$Sim")), Cond.classLink RL 42 RX12, Cond.instantiable RX12 20, Cond.initialized RX12, Cond.fieldLink RL 41 "TideLotsLaw$Sim" "grounds" "I", Cond.fieldLink RL 128 "TideLotsLaw$Sim" "ground" "[[I", Cond.fieldLink RL 56 "TideLotsLaw$Sim" "fishers" "I", Cond.fieldLink RL 144 "TideLotsLaw$Sim" "fisher" "[[I", Cond.fieldLink RL 171 "TideLotsLaw$Sim" "pacts" "I", Cond.fieldLink RL 174 "TideLotsLaw$Sim" "pact" "[[I", Cond.instanceMethod yX12_init]
def wsL_law0_r3 : List Cond := [Cond.code yX12_init cX12_init 1 none, Cond.methodLink RX12 1 objectInit, Cond.classLink RX12 7 "[[I", Cond.fieldLink RX12 9 "TideLotsLaw$Sim" "ground" "[[I", Cond.fieldLink RX12 14 "TideLotsLaw$Sim" "fisher" "[[I", Cond.fieldLink RX12 17 "TideLotsLaw$Sim" "go" "[[I", Cond.fieldLink RX12 20 "TideLotsLaw$Sim" "pact" "[[I", Cond.classLink RX12 23 "[I", Cond.fieldLink RX12 25 "TideLotsLaw$Sim" "member" "[[I", Cond.fieldLink RX12 28 "TideLotsLaw$Sim" "l" "J", Cond.fieldLink RX12 32 "TideLotsLaw$Sim" "boats" "[I", Cond.fieldLink RX12 35 "TideLotsLaw$Sim" "took" "[[I", Cond.fieldLink RX12 38 "TideLotsLaw$Sim" "store" "[I", Cond.fieldLink RX12 41 "TideLotsLaw$Sim" "caught" "[I", Cond.fieldLink RX12 44 "TideLotsLaw$Sim" "where" "[I", Cond.fieldLink RX12 47 "TideLotsLaw$Sim" "tears" "[I", Cond.fieldLink RX12 50 "TideLotsLaw$Sim" "isCheat" "[Z", Cond.fieldLink RX12 54 "TideLotsLaw$Sim" "split" "[[I", Cond.fieldLink RX12 57 "TideLotsLaw$Sim" "before" "[I", Cond.methodLink RL 118 yL_cell, Cond.static yL_cell, Cond.code yL_cell cL_cell 2 (some .int), Cond.constant RL 8 (790386105), Cond.methodLink RL 124 yL_below]
def wsL_law0_r4 : List Cond := [Cond.static yL_below, Cond.code yL_below cL_below 2 (some .int), Cond.constant RL 7 (2147483647), Cond.methodLink RL 37 yJ4_append_15ec4, Cond.instanceMethod yJ4_append_15ec4, Cond.selects RJ4 yJ4_append_15ec4 yJ4_append_15ec4, Cond.code yJ4_append_15ec4 cJ4_append_15ec4 2 (some (.object "java/lang/StringBuilder")), Cond.methodLink RJ4 29 yJ5_append_cf1ce, Cond.sameMethod "java/lang/AbstractStringBuilder" "java/lang/AbstractStringBuilder" "append" "(Ljava/lang/String;)Ljava/lang/AbstractStringBuilder;", Cond.superclass RJ4 RJ5, Cond.instanceMethod yJ5_append_cf1ce, Cond.code yJ5_append_cf1ce cJ5_append_cf1ce 3 (some (.object "java/lang/AbstractStringBuilder")), Cond.fieldLink RJ5 79 "java/lang/AbstractStringBuilder" "count" "I", Cond.methodLink RJ5 204 ⟨"java/lang/AbstractStringBuilder", "appendNull", "()Ljava/lang/AbstractStringBuilder;"⟩, Cond.sameMethod "java/lang/AbstractStringBuilder" "java/lang/AbstractStringBuilder" "appendNull" "()Ljava/lang/AbstractStringBuilder;", Cond.selects RJ4 ⟨"java/lang/AbstractStringBuilder", "appendNull", "()Ljava/lang/AbstractStringBuilder;"⟩ yJ5_appendNull_278bc, Cond.instanceMethod yJ5_appendNull_278bc, Cond.code yJ5_appendNull_278bc cJ5_appendNull_278bc 3 (some (.object "java/lang/AbstractStringBuilder")), Cond.methodLink RJ5 100 ⟨"java/lang/AbstractStringBuilder", "ensureCapacityInternal", "(I)V"⟩, Cond.sameMethod "java/lang/AbstractStringBuilder" "java/lang/AbstractStringBuilder" "ensureCapacityInternal" "(I)V", Cond.selects RJ4 ⟨"java/lang/AbstractStringBuilder", "ensureCapacityInternal", "(I)V"⟩ yJ5_ensureCapacityInternal_d00df, Cond.instanceMethod yJ5_ensureCapacityInternal_d00df, Cond.code yJ5_ensureCapacityInternal_d00df cJ5_ensureCapacityInternal_d00df 3 none, Cond.methodLink RJ5 104 ⟨"java/lang/AbstractStringBuilder", "newCapacity", "(I)I"⟩]
def wsL_law0_r5 : List Cond := [Cond.sameMethod "java/lang/AbstractStringBuilder" "java/lang/AbstractStringBuilder" "newCapacity" "(I)I", Cond.selects RJ4 ⟨"java/lang/AbstractStringBuilder", "newCapacity", "(I)I"⟩ yJ5_newCapacity_0f7a4, Cond.instanceMethod yJ5_newCapacity_0f7a4, Cond.code yJ5_newCapacity_0f7a4 cJ5_newCapacity_0f7a4 6 (some .int), Cond.constant RJ5 39 (2147483647), Cond.methodLink RJ5 114 yJ8_newLength_cabcc, Cond.static yJ8_newLength_cabcc, Cond.initialized RJ8, Cond.code yJ8_newLength_cabcc cJ8_newLength_cabcc 4 (some .int), Cond.methodLink RJ8 194 Lib.Math.max.name, Cond.static Lib.Math.max.name, Cond.initialized "java/lang/Math", Cond.code Lib.Math.max.name Lib.Math.max.code 2 (some .int), Cond.constant RJ8 200 (2147483639), Cond.methodLink RJ8 201 yJ8_hugeLength_7cf53, Cond.static yJ8_hugeLength_7cf53, Cond.code yJ8_hugeLength_7cf53 cJ8_hugeLength_7cf53 3 (some .int), Cond.methodLink RJ5 108 yJ7_copyOf_9075b, Cond.static yJ7_copyOf_9075b, Cond.initialized RJ7, Cond.code yJ7_copyOf_9075b cJ7_copyOf_9075b 3 (some (.array .byte)), Cond.methodLink RJ7 310 ⟨"[B", "clone", "()Ljava/lang/Object;"⟩, Cond.sameMethod "[B" "java/lang/Object" "clone" "()Ljava/lang/Object;", Cond.native ⟨"java/lang/Object", "clone", "()Ljava/lang/Object;"⟩]
def wsL_law0_r6 : List Cond := [Cond.instanceMethod ⟨"java/lang/Object", "clone", "()Ljava/lang/Object;"⟩, Cond.selects "[B" ⟨"[B", "clone", "()Ljava/lang/Object;"⟩ ⟨"java/lang/Object", "clone", "()Ljava/lang/Object;"⟩, Cond.classLink RJ7 311 "[B", Cond.methodLink RJ7 304 Lib.Math.min.name, Cond.static Lib.Math.min.name, Cond.code Lib.Math.min.name Lib.Math.min.code 2 (some .int), Cond.methodLink RJ7 150 arraycopyName, Cond.native arraycopyName, Cond.static arraycopyName, Cond.initialized "java/lang/System", Cond.methodLink RJ5 83 ⟨"java/lang/AbstractStringBuilder", "isLatin1", "()Z"⟩, Cond.sameMethod "java/lang/AbstractStringBuilder" "java/lang/AbstractStringBuilder" "isLatin1" "()Z", Cond.selects RJ4 ⟨"java/lang/AbstractStringBuilder", "isLatin1", "()Z"⟩ yJ5_isLatin1_aae02, Cond.instanceMethod yJ5_isLatin1_aae02, Cond.code yJ5_isLatin1_aae02 cJ5_isLatin1_aae02 1 (some .boolean), Cond.methodLink RJ5 226 yJ2_putCharsAt_cd4e5, Cond.static yJ2_putCharsAt_cd4e5, Cond.code yJ2_putCharsAt_cd4e5 cJ2_putCharsAt_cd4e5 7 (some .int), Cond.fieldLink RJ2 44 "java/lang/StringUTF16" "$assertionsDisabled" "Z", Cond.methodLink RJ2 96 yJ2_checkBoundsBeginEnd_d044e, Cond.static yJ2_checkBoundsBeginEnd_d044e, Cond.code yJ2_checkBoundsBeginEnd_d044e cJ2_checkBoundsBeginEnd_d044e 3 none, Cond.methodLink RJ2 48 yJ2_length_9d52b, Cond.static yJ2_length_9d52b]
def wsL_law0_r7 : List Cond := [Cond.code yJ2_length_9d52b cJ2_length_9d52b 1 (some .int), Cond.methodLink RJ2 241 yJ0_checkBoundsBeginEnd_23922, Cond.static yJ0_checkBoundsBeginEnd_23922, Cond.initialized RJ0, Cond.code yJ0_checkBoundsBeginEnd_23922 cJ0_checkBoundsBeginEnd_23922 3 none, Cond.fieldLink RJ0 1053 "jdk/internal/util/Preconditions" "SIOOBE_FORMATTER" "Ljava/util/function/BiFunction;", Cond.methodLink RJ0 1062 yJ3_checkFromToIndex_8c36e, Cond.static yJ3_checkFromToIndex_8c36e, Cond.initialized RJ3, Cond.code yJ3_checkFromToIndex_8c36e cJ3_checkFromToIndex_8c36e 4 (some .int), Cond.methodLink RJ2 111 yJ2_putChar_b72d1, Cond.static yJ2_putChar_b72d1, Cond.code yJ2_putChar_b72d1 cJ2_putChar_b72d1 3 none, Cond.fieldLink RJ2 59 "java/lang/StringUTF16" "HI_BYTE_SHIFT" "I", Cond.fieldLink RJ2 63 "java/lang/StringUTF16" "LO_BYTE_SHIFT" "I", Cond.methodLink RJ5 32 yJ0_length_8abf5, Cond.instanceMethod yJ0_length_8abf5, Cond.selects RJ0 yJ0_length_8abf5 yJ0_length_8abf5, Cond.code yJ0_length_8abf5 cJ0_length_8abf5 1 (some .int), Cond.fieldLink RJ0 9 "java/lang/String" "value" "[B", Cond.methodLink RJ0 335 yJ0_coder_7d493, Cond.instanceMethod yJ0_coder_7d493, Cond.selects RJ0 yJ0_coder_7d493 yJ0_coder_7d493, Cond.code yJ0_coder_7d493 cJ0_coder_7d493 1 (some .byte)]
def wsL_law0_r8 : List Cond := [Cond.fieldLink RJ0 38 "java/lang/String" "COMPACT_STRINGS" "Z", Cond.fieldLink RJ0 15 "java/lang/String" "coder" "B", Cond.methodLink RJ5 208 ⟨"java/lang/AbstractStringBuilder", "putStringAt", "(ILjava/lang/String;)V"⟩, Cond.sameMethod "java/lang/AbstractStringBuilder" "java/lang/AbstractStringBuilder" "putStringAt" "(ILjava/lang/String;)V", Cond.selects RJ4 ⟨"java/lang/AbstractStringBuilder", "putStringAt", "(ILjava/lang/String;)V"⟩ yJ5_putStringAt_47b60, Cond.instanceMethod yJ5_putStringAt_47b60, Cond.code yJ5_putStringAt_47b60 cJ5_putStringAt_47b60 3 none, Cond.methodLink RJ5 397 ⟨"java/lang/AbstractStringBuilder", "inflateIfNeededFor", "(Ljava/lang/String;)V"⟩, Cond.sameMethod "java/lang/AbstractStringBuilder" "java/lang/AbstractStringBuilder" "inflateIfNeededFor" "(Ljava/lang/String;)V", Cond.selects RJ4 ⟨"java/lang/AbstractStringBuilder", "inflateIfNeededFor", "(Ljava/lang/String;)V"⟩ yJ5_inflateIfNeededFor_a7421, Cond.instanceMethod yJ5_inflateIfNeededFor_a7421, Cond.code yJ5_inflateIfNeededFor_a7421 cJ5_inflateIfNeededFor_a7421 2 none, Cond.methodLink RJ5 40 yJ0_coder_7d493, Cond.methodLink RJ5 195 ⟨"java/lang/AbstractStringBuilder", "inflate", "()V"⟩, Cond.sameMethod "java/lang/AbstractStringBuilder" "java/lang/AbstractStringBuilder" "inflate" "()V", Cond.selects RJ4 ⟨"java/lang/AbstractStringBuilder", "inflate", "()V"⟩ yJ5_inflate_da8c8, Cond.instanceMethod yJ5_inflate_da8c8, Cond.code yJ5_inflate_da8c8 cJ5_inflate_da8c8 2 none, Cond.methodLink RJ5 125 yJ1_inflate_0e8fd, Cond.static yJ1_inflate_0e8fd, Cond.initialized RJ1, Cond.code yJ1_inflate_0e8fd cJ1_inflate_0e8fd 5 none, Cond.methodLink RJ1 240 yJ2_inflate_0e8fd, Cond.static yJ2_inflate_0e8fd]
def wsL_law0_r9 : List Cond := [Cond.code yJ2_inflate_0e8fd cJ2_inflate_0e8fd 6 none, Cond.methodLink RJ2 173 yJ2_checkBoundsOffCount_d044e, Cond.static yJ2_checkBoundsOffCount_d044e, Cond.code yJ2_checkBoundsOffCount_d044e cJ2_checkBoundsOffCount_d044e 3 none, Cond.methodLink RJ2 419 yJ0_checkBoundsOffCount_cabcc, Cond.static yJ0_checkBoundsOffCount_cabcc, Cond.code yJ0_checkBoundsOffCount_cabcc cJ0_checkBoundsOffCount_cabcc 3 (some .int), Cond.methodLink RJ0 1065 yJ3_checkFromIndexSize_8c36e, Cond.static yJ3_checkFromIndexSize_8c36e, Cond.code yJ3_checkFromIndexSize_8c36e cJ3_checkFromIndexSize_8c36e 4 (some .int), Cond.methodLink RJ5 399 yJ0_getBytes_840e7, Cond.instanceMethod yJ0_getBytes_840e7, Cond.selects RJ0 yJ0_getBytes_840e7 yJ0_getBytes_840e7, Cond.code yJ0_getBytes_840e7 cJ0_getBytes_840e7 4 none, Cond.methodLink RJ0 212 arraycopyName, Cond.methodLink RJ0 106 yJ1_inflate_0e8fd, Cond.methodLink RL 47 yJ4_append_bf812, Cond.instanceMethod yJ4_append_bf812, Cond.selects RJ4 yJ4_append_bf812 yJ4_append_bf812, Cond.code yJ4_append_bf812 cJ4_append_bf812 2 (some (.object "java/lang/StringBuilder")), Cond.methodLink RJ4 53 yJ5_append_c97b9, Cond.sameMethod "java/lang/AbstractStringBuilder" "java/lang/AbstractStringBuilder" "append" "(I)Ljava/lang/AbstractStringBuilder;", Cond.instanceMethod yJ5_append_c97b9, Cond.code yJ5_append_c97b9 cJ5_append_c97b9 4 (some (.object "java/lang/AbstractStringBuilder"))]
def wsL_law0_r10 : List Cond := [Cond.methodLink RJ5 245 yJ6_stringSize_0f7a4, Cond.static yJ6_stringSize_0f7a4, Cond.initialized RJ6, Cond.code yJ6_stringSize_0f7a4 cJ6_stringSize_0f7a4 4 (some .int), Cond.methodLink RJ5 248 yJ6_getChars_ba4f3, Cond.static yJ6_getChars_ba4f3, Cond.code yJ6_getChars_ba4f3 cJ6_getChars_ba4f3 7 (some .int), Cond.fieldLink RJ6 83 "java/lang/Integer" "DigitOnes" "[B", Cond.fieldLink RJ6 87 "java/lang/Integer" "DigitTens" "[B", Cond.methodLink RJ5 251 yJ2_getChars_46870, Cond.static yJ2_getChars_46870, Cond.code yJ2_getChars_46870 cJ2_getChars_46870 5 (some .int), Cond.methodLink RJ2 393 yJ2_getChars_ba4f3, Cond.static yJ2_getChars_ba4f3, Cond.code yJ2_getChars_ba4f3 cJ2_getChars_ba4f3 7 (some .int), Cond.fieldLink RJ2 403 "java/lang/Integer" "DigitOnes" "[B", Cond.fieldLink RJ2 407 "java/lang/Integer" "DigitTens" "[B", Cond.methodLink RL 165 yL_test, Cond.static yL_test, Cond.code yL_test cL_test 6 (some (.object "java/lang/String")), Cond.methodLink RL 50 yJ4_toString_0e30d, Cond.instanceMethod yJ4_toString_0e30d, Cond.selects RJ4 yJ4_toString_0e30d yJ4_toString_0e30d, Cond.code yJ4_toString_0e30d cJ4_toString_0e30d 1 (some (.object "java/lang/String"))]
def wsL_law0_r11 : List Cond := [Cond.classLink RJ4 18 RJ0, Cond.instantiable RJ0 4, Cond.methodLink RJ4 137 yJ0_init_81219, Cond.instanceMethod yJ0_init_81219, Cond.code yJ0_init_81219 cJ0_init_81219 2 none, Cond.methodLink RJ0 489 yJ0_init_db425, Cond.instanceMethod yJ0_init_db425, Cond.code yJ0_init_db425 cJ0_init_db425 5 none, Cond.methodLink RJ0 1 objectInit, Cond.fieldLink RJ0 1048 "java/lang/AbstractStringBuilder" "maybeLatin1" "Z", Cond.methodLink RJ0 552 ⟨"java/lang/AbstractStringBuilder", "getValue", "()[B"⟩, Cond.sameMethod "java/lang/AbstractStringBuilder" "java/lang/AbstractStringBuilder" "getValue" "()[B", Cond.selects RJ4 ⟨"java/lang/AbstractStringBuilder", "getValue", "()[B"⟩ yJ5_getValue_6d5f1, Cond.instanceMethod yJ5_getValue_6d5f1, Cond.code yJ5_getValue_6d5f1 cJ5_getValue_6d5f1 1 (some (.array .byte)), Cond.methodLink RJ0 549 ⟨"java/lang/AbstractStringBuilder", "length", "()I"⟩, Cond.sameMethod "java/lang/AbstractStringBuilder" "java/lang/AbstractStringBuilder" "length" "()I", Cond.instanceMethod ⟨"java/lang/AbstractStringBuilder", "length", "()I"⟩, Cond.selects RJ4 ⟨"java/lang/AbstractStringBuilder", "length", "()I"⟩ yJ4_length_8abf5, Cond.instanceMethod yJ4_length_8abf5, Cond.code yJ4_length_8abf5 cJ4_length_8abf5 1 (some .int), Cond.methodLink RJ4 343 yJ5_length_8abf5, Cond.instanceMethod yJ5_length_8abf5, Cond.code yJ5_length_8abf5 cJ5_length_8abf5 1 (some .int)]
def wsL_law0_r12 : List Cond := [Cond.methodLink RJ0 1047 ⟨"java/lang/AbstractStringBuilder", "isLatin1", "()Z"⟩, Cond.methodLink RJ0 54 yJ7_copyOfRange_39247, Cond.static yJ7_copyOfRange_39247, Cond.code yJ7_copyOfRange_39247 cJ7_copyOfRange_39247 3 (some (.array .byte)), Cond.methodLink RJ7 339 yJ7_copyOfRangeByte_39247, Cond.static yJ7_copyOfRangeByte_39247, Cond.code yJ7_copyOfRangeByte_39247 cJ7_copyOfRangeByte_39247 5 (some (.array .byte)), Cond.methodLink RJ7 343 yJ7_checkLength_df160, Cond.static yJ7_checkLength_df160, Cond.code yJ7_checkLength_df160 cJ7_checkLength_df160 2 none, Cond.methodLink RJ0 1051 yJ2_compress_39247, Cond.static yJ2_compress_39247, Cond.code yJ2_compress_39247 cJ2_compress_39247 6 (some (.array .byte)), Cond.methodLink RJ2 123 yJ2_compress_5af95, Cond.static yJ2_compress_5af95, Cond.code yJ2_compress_5af95 cJ2_compress_5af95 7 (some .int), Cond.methodLink RJ2 71 yJ2_getChar_3b067, Cond.static yJ2_getChar_3b067, Cond.code yJ2_getChar_3b067 cJ2_getChar_3b067 2 (some .char), Cond.methodLink RJ2 126 yJ7_copyOfRange_39247, Cond.methodLink RJ0 47 yJ2_coderFromArrayLen_85cad, Cond.static yJ2_coderFromArrayLen_85cad, Cond.code yJ2_coderFromArrayLen_85cad cJ2_coderFromArrayLen_85cad 2 (some .byte), Cond.methodLink RL 190 yL_sum]
def wsL_law0_r13 : List Cond := [Cond.static yL_sum, Cond.code yL_sum cL_sum 3 (some (.object "java/lang/String")), Cond.methodLink RL 198 yX11_init, Cond.instanceMethod yX11_init, Cond.code yX11_init cX11_init 1 none, Cond.methodLink RX11 1 objectInit, Cond.classLink RX11 7 RX10, Cond.instantiable RX10 6, Cond.initialized RX10, Cond.fieldLink RX11 10 "TideLots" "tape" "LTideLots$Tape;", Cond.classLink RX11 16 RX7, Cond.instantiable RX7 17, Cond.initialized RX7, Cond.fieldLink RX11 19 "TideLots" "shore" "LTideLots$Shore;", Cond.fieldLink RX11 23 "TideLots" "other" "LTideLots$Shore;", Cond.fieldLink RX11 26 "TideLots" "errorAt" "I", Cond.methodLink RX11 9 yX10_init, Cond.instanceMethod yX10_init, Cond.code yX10_init cX10_init 2 none, Cond.methodLink RX10 3 objectInit, Cond.fieldLink RX10 9 "TideLots$Tape" "bytes" "[B", Cond.classLink RX10 15 RX8, Cond.fieldLink RX10 17 "TideLots$Tape" "signs" "[LTideLots$Sign;", Cond.fieldLink RX10 21 "TideLots$Tape" "starts" "[I"]
def wsL_law0_r14 : List Cond := [Cond.arrayClass .long, Cond.fieldLink RX10 25 "TideLots$Tape" "values" "[J", Cond.fieldLink RX10 29 "TideLots$Sign" "END" "LTideLots$Sign;", Cond.methodLink RX11 18 yX7_init, Cond.instanceMethod yX7_init, Cond.code yX7_init cX7_init 2 none, Cond.methodLink RX7 3 objectInit, Cond.fieldLink RX7 9 "TideLots$Shore" "luck" "I", Cond.classLink RX7 15 RX3, Cond.fieldLink RX7 17 "TideLots$Shore" "grounds" "[LTideLots$Ground;", Cond.classLink RX7 21 RX1, Cond.fieldLink RX7 23 "TideLots$Shore" "fishers" "[LTideLots$Fisher;", Cond.classLink RX7 27 RX2, Cond.fieldLink RX7 29 "TideLots$Shore" "goes" "[LTideLots$Go;", Cond.classLink RX7 33 RX5, Cond.fieldLink RX7 35 "TideLots$Shore" "pacts" "[LTideLots$Pact;", Cond.classLink RX7 39 RX9, Cond.instantiable RX9 4, Cond.initialized RX9, Cond.fieldLink RX7 42 "TideLots$Shore" "sums" "LTideLots$Sums;", Cond.fieldLink RX7 46 "TideLots$Shore" "lots" "[I", Cond.fieldLink RX7 50 "TideLots$Shore" "row" "[I", Cond.fieldLink RX7 53 "TideLots$Shore" "haul" "[I", Cond.instantiable RX3 4]
def wsL_law0_r15 : List Cond := [Cond.initialized RX3, Cond.fieldLink RX7 57 "TideLots$Shore" "newGround" "LTideLots$Ground;", Cond.instantiable RX1 11, Cond.initialized RX1, Cond.fieldLink RX7 62 "TideLots$Shore" "newFisher" "LTideLots$Fisher;", Cond.instantiable RX5 8, Cond.initialized RX5, Cond.fieldLink RX7 67 "TideLots$Shore" "newPact" "LTideLots$Pact;", Cond.instantiable RX2 4, Cond.initialized RX2, Cond.methodLink RX7 41 yX9_init, Cond.instanceMethod yX9_init, Cond.code yX9_init cX9_init 2 none, Cond.methodLink RX9 3 objectInit, Cond.classLink RX9 9 RX8, Cond.fieldLink RX9 11 "TideLots$Sums" "signs" "[LTideLots$Sign;", Cond.fieldLink RX9 17 "TideLots$Sums" "values" "[I", Cond.fieldLink RX9 21 "TideLots$Sums" "stack" "[I", Cond.fieldLink RX9 24 "TideLots$Sign" "NUMBER" "LTideLots$Sign;", Cond.instanceMethod yX3_init, Cond.code yX3_init cX3_init 1 none, Cond.methodLink RX3 3 objectInit, Cond.fieldLink RX3 9 "TideLots$Ground" "fish" "[I", Cond.instanceMethod yX1_init]
def wsL_law0_r16 : List Cond := [Cond.code yX1_init cX1_init 1 none, Cond.methodLink RX1 3 objectInit, Cond.fieldLink RX1 9 "TideLots$Fisher" "place" "I", Cond.fieldLink RX1 15 "TideLots$Fisher" "took" "[I", Cond.instanceMethod yX5_init, Cond.code yX5_init cX5_init 1 none, Cond.methodLink RX5 3 objectInit, Cond.fieldLink RX5 9 "TideLots$Pact" "ground" "I", Cond.fieldLink RX5 15 "TideLots$Pact" "fishers" "[I", Cond.instanceMethod yX2_init, Cond.code yX2_init cX2_init 1 none, Cond.methodLink RX2 1 objectInit, Cond.methodLink RL 199 yL_taught, Cond.static yL_taught, Cond.code yL_taught cL_taught 5 (some .int), Cond.methodLink RL 9 yX11_trim, Cond.instanceMethod yX11_trim, Cond.selects RX11 yX11_trim yX11_trim, Cond.code yX11_trim cX11_trim 2 (some .int), Cond.classLink RX11 44 "java/lang/IllegalArgumentException", Cond.initialized "java/lang/IllegalArgumentException", Cond.fieldLink RX11 30 "TideLots$Tape" "length" "I", Cond.methodLink RL 15 yJ0_length_8abf5, Cond.methodLink RL 21 yJ0_charAt_5068e]
def wsL_law0_r17 : List Cond := [Cond.instanceMethod yJ0_charAt_5068e, Cond.selects RJ0 yJ0_charAt_5068e yJ0_charAt_5068e, Cond.code yJ0_charAt_5068e cJ0_charAt_5068e 2 (some .char), Cond.methodLink RJ0 492 yJ0_isLatin1_aae02, Cond.instanceMethod yJ0_isLatin1_aae02, Cond.selects RJ0 yJ0_isLatin1_aae02 yJ0_isLatin1_aae02, Cond.code yJ0_isLatin1_aae02 cJ0_isLatin1_aae02 1 (some .boolean), Cond.methodLink RJ0 495 yJ1_charAt_3b067, Cond.static yJ1_charAt_3b067, Cond.code yJ1_charAt_3b067 cJ1_charAt_3b067 2 (some .char), Cond.methodLink RJ1 9 yJ0_checkIndex_df160, Cond.static yJ0_checkIndex_df160, Cond.code yJ0_checkIndex_df160 cJ0_checkIndex_df160 2 none, Cond.methodLink RJ0 1059 yJ3_checkIndex_8e157, Cond.static yJ3_checkIndex_8e157, Cond.code yJ3_checkIndex_8e157 cJ3_checkIndex_8e157 3 (some .int), Cond.methodLink RJ0 498 yJ2_charAt_3b067, Cond.static yJ2_charAt_3b067, Cond.code yJ2_charAt_3b067 cJ2_charAt_3b067 2 (some .char), Cond.methodLink RJ2 67 yJ2_checkIndex_2214a, Cond.static yJ2_checkIndex_2214a, Cond.code yJ2_checkIndex_2214a cJ2_checkIndex_2214a 2 none, Cond.methodLink RJ2 414 yJ0_checkIndex_df160, Cond.methodLink RL 25 yX11_feed]
def wsL_law0_r18 : List Cond := [Cond.instanceMethod yX11_feed, Cond.selects RX11 yX11_feed yX11_feed, Cond.code yX11_feed cX11_feed 6 (some .int), Cond.classLink RX11 33 "java/lang/IllegalStateException", Cond.initialized "java/lang/IllegalStateException", Cond.methodLink RX11 40 yX10_append, Cond.instanceMethod yX10_append, Cond.selects RX10 yX10_append yX10_append, Cond.code yX10_append cX10_append 3 none, Cond.fieldLink RX10 33 "TideLots$Tape" "length" "I", Cond.methodLink RL 29 yX11_teach, Cond.instanceMethod yX11_teach, Cond.selects RX11 yX11_teach yX11_teach, Cond.code yX11_teach cX11_teach 4 (some .int), Cond.classLink RX11 52 RX6, Cond.instantiable RX6 9, Cond.initialized RX6, Cond.fieldLink RX11 61 "TideLots$Reader" "errorAt" "I", Cond.fieldLink RX11 62 "TideLots$Shore" "tide" "I", Cond.fieldLink RX11 65 "TideLots$Shore" "luck" "I", Cond.methodLink RX11 49 yX10_scan, Cond.instanceMethod yX10_scan, Cond.selects RX10 yX10_scan yX10_scan, Cond.code yX10_scan cX10_scan 2 none]
def wsL_law0_r19 : List Cond := [Cond.fieldLink RX10 37 "TideLots$Tape" "end" "I", Cond.fieldLink RX10 47 "TideLots$Sign" "NO_TOKEN" "LTideLots$Sign;", Cond.methodLink RX10 40 yX10_skipBlanks, Cond.instanceMethod yX10_skipBlanks, Cond.selects RX10 yX10_skipBlanks yX10_skipBlanks, Cond.code yX10_skipBlanks cX10_skipBlanks 1 none, Cond.methodLink RX10 50 yX10_at, Cond.instanceMethod yX10_at, Cond.selects RX10 yX10_at yX10_at, Cond.code yX10_at cX10_at 2 (some .int), Cond.methodLink RX10 43 yX10_scanToken, Cond.instanceMethod yX10_scanToken, Cond.selects RX10 yX10_scanToken yX10_scanToken, Cond.code yX10_scanToken cX10_scanToken 2 (some (.object "TideLots$Sign")), Cond.methodLink RX10 54 yX10_isLetter, Cond.instanceMethod yX10_isLetter, Cond.selects RX10 yX10_isLetter yX10_isLetter, Cond.code yX10_isLetter cX10_isLetter 2 (some .boolean), Cond.methodLink RX10 58 yX10_scanWord, Cond.instanceMethod yX10_scanWord, Cond.selects RX10 yX10_scanWord yX10_scanWord, Cond.code yX10_scanWord cX10_scanWord 6 (some (.object "TideLots$Sign")), Cond.constantLong RX10 71 (37), Cond.fieldLink RX10 73 "TideLots$Sign" "NAME" "LTideLots$Sign;"]
def wsL_law0_r20 : List Cond := [Cond.methodLink RX10 61 yX10_isDigit, Cond.instanceMethod yX10_isDigit, Cond.selects RX10 yX10_isDigit yX10_isDigit, Cond.code yX10_isDigit cX10_isDigit 2 (some .boolean), Cond.methodLink RX10 76 yX10_signOf, Cond.instanceMethod yX10_signOf, Cond.selects RX10 yX10_signOf yX10_signOf, Cond.code yX10_signOf cX10_signOf 8 (some (.object "TideLots$Sign")), Cond.fieldLink RX10 88 "TideLots$Sign" "text" "Ljava/lang/String;", Cond.methodLink RX10 92 yX10_reads, Cond.instanceMethod yX10_reads, Cond.selects RX10 yX10_reads yX10_reads, Cond.code yX10_reads cX10_reads 5 (some .boolean), Cond.methodLink RX10 96 yJ0_length_8abf5, Cond.methodLink RX10 101 yJ0_charAt_5068e, Cond.methodLink RX10 64 yX10_scanNumber, Cond.instanceMethod yX10_scanNumber, Cond.selects RX10 yX10_scanNumber yX10_scanNumber, Cond.code yX10_scanNumber cX10_scanNumber 5 (some (.object "TideLots$Sign")), Cond.constantLong RX10 80 (10), Cond.fieldLink RX10 82 "TideLots$Sign" "NUMBER" "LTideLots$Sign;", Cond.methodLink RX10 67 yX10_scanSymbol, Cond.instanceMethod yX10_scanSymbol, Cond.selects RX10 yX10_scanSymbol yX10_scanSymbol]
def wsL_law0_r21 : List Cond := [Cond.code yX10_scanSymbol cX10_scanSymbol 3 (some (.object "TideLots$Sign")), Cond.methodLink RX11 54 yX6_init, Cond.instanceMethod yX6_init, Cond.code yX6_init cX6_init 3 none, Cond.methodLink RX6 3 objectInit, Cond.fieldLink RX6 9 "TideLots$Reader" "errorAt" "I", Cond.classLink RX6 15 RX4, Cond.instantiable RX4 2, Cond.initialized RX4, Cond.fieldLink RX6 20 "TideLots$Reader" "groundNames" "LTideLots$Names;", Cond.fieldLink RX6 24 "TideLots$Reader" "fisherNames" "LTideLots$Names;", Cond.fieldLink RX6 27 "TideLots$Reader" "pactNames" "LTideLots$Names;", Cond.fieldLink RX6 30 "TideLots$Reader" "tape" "LTideLots$Tape;", Cond.fieldLink RX6 34 "TideLots$Reader" "built" "LTideLots$Shore;", Cond.methodLink RX6 17 yX4_init, Cond.instanceMethod yX4_init, Cond.code yX4_init cX4_init 2 none, Cond.methodLink RX4 1 objectInit, Cond.methodLink RX4 7 Lib.Math.max.name, Cond.fieldLink RX4 13 "TideLots$Names" "words" "[J", Cond.methodLink RX11 57 yX6_read, Cond.instanceMethod yX6_read, Cond.selects RX6 yX6_read yX6_read, Cond.code yX6_read cX6_read 3 (some .int)]
def wsL_law0_r22 : List Cond := [Cond.fieldLink RX6 47 "TideLots$Sign" "END" "LTideLots$Sign;", Cond.fieldLink RX6 53 "TideLots$1" "$SwitchMap$TideLots$Sign" "[I", Cond.fieldLink RX6 76 "TideLots$Sign" "SEMICOLON" "LTideLots$Sign;", Cond.fieldLink RX6 83 "TideLots$Reader" "error" "I", Cond.fieldLink RX6 86 "TideLots$Tape" "starts" "[I", Cond.fieldLink RX6 91 "TideLots$Reader" "at" "I", Cond.methodLink RX6 38 yX7_forget, Cond.instanceMethod yX7_forget, Cond.selects RX7 yX7_forget yX7_forget, Cond.code yX7_forget cX7_forget 1 none, Cond.fieldLink RX7 72 "TideLots$Shore" "groundCount" "I", Cond.fieldLink RX7 75 "TideLots$Shore" "fisherCount" "I", Cond.fieldLink RX7 78 "TideLots$Shore" "goCount" "I", Cond.fieldLink RX7 81 "TideLots$Shore" "pactCount" "I", Cond.fieldLink RX7 84 "TideLots$Sums" "length" "I", Cond.methodLink RX6 43 yX6_sign, Cond.instanceMethod yX6_sign, Cond.selects RX6 yX6_sign yX6_sign, Cond.code yX6_sign cX6_sign 1 (some (.object "TideLots$Sign")), Cond.fieldLink RX6 328 "TideLots$Tape" "signs" "[LTideLots$Sign;", Cond.methodLink RX6 59 ⟨"TideLots$Sign", "ordinal", "()I"⟩, Cond.sameMethod "TideLots$Sign" "java/lang/Enum" "ordinal" "()I", Cond.selects RX8 ⟨"TideLots$Sign", "ordinal", "()I"⟩ yJx29ce0_ordinal_8abf5, Cond.instanceMethod yJx29ce0_ordinal_8abf5]
def wsL_law0_r23 : List Cond := [Cond.initialized RJx29ce0, Cond.code yJx29ce0_ordinal_8abf5 cJx29ce0_ordinal_8abf5 1 (some .int), Cond.fieldLink RJx29ce0 7 "java/lang/Enum" "ordinal" "I", Cond.methodLink RX6 63 yX6_groundLine, Cond.instanceMethod yX6_groundLine, Cond.selects RX6 yX6_groundLine yX6_groundLine, Cond.code yX6_groundLine cX6_groundLine 3 (some .boolean), Cond.fieldLink RX6 94 "TideLots$Sign" "GROUND" "LTideLots$Sign;", Cond.fieldLink RX6 105 "TideLots$Sign" "ROOM" "LTideLots$Sign;", Cond.fieldLink RX6 112 "TideLots$Reader" "number" "I", Cond.fieldLink RX6 115 "TideLots$Ground" "room" "I", Cond.fieldLink RX6 120 "TideLots$Sign" "FISH" "LTideLots$Sign;", Cond.fieldLink RX6 127 "TideLots$Sign" "COMMA" "LTideLots$Sign;", Cond.methodLink RX6 79 yX6_take, Cond.instanceMethod yX6_take, Cond.selects RX6 yX6_take yX6_take, Cond.code yX6_take cX6_take 2 (some .boolean), Cond.methodLink RX6 97 yX6_takeNew, Cond.instanceMethod yX6_takeNew, Cond.selects RX6 yX6_takeNew yX6_takeNew, Cond.code yX6_takeNew cX6_takeNew 4 (some .boolean), Cond.fieldLink RX6 250 "TideLots$Sign" "NAME" "LTideLots$Sign;", Cond.fieldLink RX6 253 "TideLots$Tape" "values" "[J", Cond.methodLink RX6 257 yX4_find]
def wsL_law0_r24 : List Cond := [Cond.instanceMethod yX4_find, Cond.selects RX4 yX4_find yX4_find, Cond.code yX4_find cX4_find 4 (some .int), Cond.fieldLink RX4 19 "TideLots$Names" "size" "I", Cond.methodLink RX6 133 yX6_noteError, Cond.instanceMethod yX6_noteError, Cond.selects RX6 yX6_noteError yX6_noteError, Cond.code yX6_noteError cX6_noteError 2 none, Cond.methodLink RX6 325 yX4_add, Cond.instanceMethod yX4_add, Cond.selects RX4 yX4_add yX4_add, Cond.code yX4_add cX4_add 3 (some .boolean), Cond.methodLink RX6 101 yX7_nextGround, Cond.instanceMethod yX7_nextGround, Cond.selects RX7 yX7_nextGround yX7_nextGround, Cond.code yX7_nextGround cX7_nextGround 2 (some (.object "TideLots$Ground")), Cond.methodLink RX7 87 Lib.Math.min.name, Cond.methodLink RX7 93 yX3_copyFrom, Cond.instanceMethod yX3_copyFrom, Cond.selects RX3 yX3_copyFrom yX3_copyFrom, Cond.code yX3_copyFrom cX3_copyFrom 3 none, Cond.fieldLink RX3 15 "TideLots$Ground" "room" "I", Cond.fieldLink RX3 19 "TideLots$Ground" "boats" "I", Cond.fieldLink RX3 22 "TideLots$Ground" "caught" "I"]
def wsL_law0_r25 : List Cond := [Cond.methodLink RX6 108 yX6_takeNumber, Cond.instanceMethod yX6_takeNumber, Cond.selects RX6 yX6_takeNumber yX6_takeNumber, Cond.code yX6_takeNumber cX6_takeNumber 3 (some .boolean), Cond.fieldLink RX6 130 "TideLots$Sign" "NUMBER" "LTideLots$Sign;", Cond.methodLink RX6 123 yX6_takeFish, Cond.instanceMethod yX6_takeFish, Cond.selects RX6 yX6_takeFish yX6_takeFish, Cond.code yX6_takeFish cX6_takeFish 3 (some .boolean), Cond.fieldLink RX6 136 "TideLots$Ground" "fish" "[I", Cond.methodLink RX6 67 yX6_fisherLine, Cond.instanceMethod yX6_fisherLine, Cond.selects RX6 yX6_fisherLine yX6_fisherLine, Cond.code yX6_fisherLine cX6_fisherLine 2 (some .boolean), Cond.fieldLink RX6 139 "TideLots$Sign" "FISHER" "LTideLots$Sign;", Cond.fieldLink RX6 146 "TideLots$Sign" "MESH" "LTideLots$Sign;", Cond.fieldLink RX6 149 "TideLots$Fisher" "toldMesh" "I", Cond.fieldLink RX6 154 "TideLots$Fisher" "mesh" "I", Cond.fieldLink RX6 157 "TideLots$Sign" "NET" "LTideLots$Sign;", Cond.fieldLink RX6 160 "TideLots$Fisher" "net" "I", Cond.fieldLink RX6 163 "TideLots$Sign" "HOLD" "LTideLots$Sign;", Cond.fieldLink RX6 166 "TideLots$Fisher" "hold" "I", Cond.methodLink RX6 142 yX7_nextFisher, Cond.instanceMethod yX7_nextFisher]
def wsL_law0_r26 : List Cond := [Cond.selects RX7 yX7_nextFisher yX7_nextFisher, Cond.code yX7_nextFisher cX7_nextFisher 2 (some (.object "TideLots$Fisher")), Cond.methodLink RX7 97 yX1_copyFrom, Cond.instanceMethod yX1_copyFrom, Cond.selects RX1 yX1_copyFrom yX1_copyFrom, Cond.code yX1_copyFrom cX1_copyFrom 3 none, Cond.fieldLink RX1 19 "TideLots$Fisher" "toldMesh" "I", Cond.fieldLink RX1 22 "TideLots$Fisher" "mesh" "I", Cond.fieldLink RX1 25 "TideLots$Fisher" "net" "I", Cond.fieldLink RX1 28 "TideLots$Fisher" "hold" "I", Cond.fieldLink RX1 31 "TideLots$Fisher" "store" "I", Cond.fieldLink RX1 34 "TideLots$Fisher" "latest" "I", Cond.fieldLink RX1 37 "TideLots$Fisher" "tears" "I", Cond.fieldLink RX1 40 "TideLots$Fisher" "caught" "I", Cond.fieldLink RX1 43 "TideLots$Fisher" "isCheat" "Z", Cond.methodLink RX6 70 yX6_goLine, Cond.instanceMethod yX6_goLine, Cond.selects RX6 yX6_goLine yX6_goLine, Cond.code yX6_goLine cX6_goLine 2 (some .boolean), Cond.fieldLink RX6 169 "TideLots$Shore" "goCount" "I", Cond.fieldLink RX6 176 "TideLots$Sign" "GO" "LTideLots$Sign;", Cond.fieldLink RX6 182 "TideLots$Go" "fisher" "I", Cond.fieldLink RX6 187 "TideLots$Sign" "TO" "LTideLots$Sign;", Cond.fieldLink RX6 190 "TideLots$Go" "ground" "I"]
def wsL_law0_r27 : List Cond := [Cond.fieldLink RX6 193 "TideLots$Shore" "sums" "LTideLots$Sums;", Cond.fieldLink RX6 197 "TideLots$Sums" "length" "I", Cond.fieldLink RX6 202 "TideLots$Go" "testStart" "I", Cond.fieldLink RX6 205 "TideLots$Sign" "WHEN" "LTideLots$Sign;", Cond.fieldLink RX6 212 "TideLots$Go" "testEnd" "I", Cond.methodLink RX6 172 yX7_nextGo, Cond.instanceMethod yX7_nextGo, Cond.selects RX7 yX7_nextGo yX7_nextGo, Cond.code yX7_nextGo cX7_nextGo 1 (some (.object "TideLots$Go")), Cond.methodLink RX6 179 yX6_takeKnown, Cond.instanceMethod yX6_takeKnown, Cond.selects RX6 yX6_takeKnown yX6_takeKnown, Cond.code yX6_takeKnown cX6_takeKnown 2 (some .boolean), Cond.methodLink RX6 208 yX6_test, Cond.instanceMethod yX6_test, Cond.selects RX6 yX6_test yX6_test, Cond.code yX6_test cX6_test 3 (some .boolean), Cond.fieldLink RX6 270 "TideLots$Sign" "OR" "LTideLots$Sign;", Cond.methodLink RX6 267 yX6_both, Cond.instanceMethod yX6_both, Cond.selects RX6 yX6_both yX6_both, Cond.methodLink RX6 273 yX9_add, Cond.instanceMethod yX9_add, Cond.selects RX9 yX9_add yX9_add]
def wsL_law0_r28 : List Cond := [Cond.code yX9_add cX9_add 3 none, Cond.fieldLink RX9 28 "TideLots$Sums" "length" "I", Cond.code yX6_both cX6_both 3 (some .boolean), Cond.fieldLink RX6 279 "TideLots$Sign" "AND" "LTideLots$Sign;", Cond.methodLink RX6 276 yX6_single, Cond.instanceMethod yX6_single, Cond.selects RX6 yX6_single yX6_single, Cond.code yX6_single cX6_single 3 (some .boolean), Cond.fieldLink RX6 282 "TideLots$Sign" "NOT" "LTideLots$Sign;", Cond.fieldLink RX6 285 "TideLots$Sign" "OPEN_TEST" "LTideLots$Sign;", Cond.fieldLink RX6 288 "TideLots$Sign" "CLOSE_TEST" "LTideLots$Sign;", Cond.fieldLink RX6 291 "TideLots$Sign" "CHEATS" "LTideLots$Sign;", Cond.methodLink RX6 244 yX6_sum, Cond.instanceMethod yX6_sum, Cond.selects RX6 yX6_sum yX6_sum, Cond.code yX6_sum cX6_sum 4 (some .boolean), Cond.fieldLink RX6 300 "TideLots$Sign" "PLUS" "LTideLots$Sign;", Cond.fieldLink RX6 303 "TideLots$Sign" "MINUS" "LTideLots$Sign;", Cond.methodLink RX6 297 yX6_product, Cond.instanceMethod yX6_product, Cond.selects RX6 yX6_product yX6_product, Cond.code yX6_product cX6_product 4 (some .boolean), Cond.fieldLink RX6 309 "TideLots$Sign" "TIMES" "LTideLots$Sign;", Cond.fieldLink RX6 312 "TideLots$Sign" "OVER" "LTideLots$Sign;"]
def wsL_law0_r29 : List Cond := [Cond.methodLink RX6 306 yX6_value, Cond.instanceMethod yX6_value, Cond.selects RX6 yX6_value yX6_value, Cond.code yX6_value cX6_value 4 (some .boolean), Cond.constant RX6 315 (999999), Cond.fieldLink RX6 316 "TideLots$Sign" "NEGATE" "LTideLots$Sign;", Cond.fieldLink RX6 319 "TideLots$Sign" "CLOSE" "LTideLots$Sign;", Cond.fieldLink RX6 322 "TideLots$Sign" "OPEN" "LTideLots$Sign;", Cond.methodLink RX6 294 yX6_comparedSum, Cond.instanceMethod yX6_comparedSum, Cond.selects RX6 yX6_comparedSum yX6_comparedSum, Cond.code yX6_comparedSum cX6_comparedSum 3 (some .boolean), Cond.methodLink RX6 73 yX6_pactLine, Cond.instanceMethod yX6_pactLine, Cond.selects RX6 yX6_pactLine yX6_pactLine, Cond.code yX6_pactLine cX6_pactLine 3 (some .boolean), Cond.fieldLink RX6 215 "TideLots$Sign" "PACT" "LTideLots$Sign;", Cond.fieldLink RX6 222 "TideLots$Sign" "OF" "LTideLots$Sign;", Cond.fieldLink RX6 229 "TideLots$Sign" "SPLIT" "LTideLots$Sign;", Cond.fieldLink RX6 232 "TideLots$Sign" "SPARE" "LTideLots$Sign;", Cond.fieldLink RX6 235 "TideLots$Pact" "ground" "I", Cond.fieldLink RX6 238 "TideLots$Pact" "sumStart" "I", Cond.fieldLink RX6 241 "TideLots$Sign" "BELOW" "LTideLots$Sign;", Cond.fieldLink RX6 247 "TideLots$Pact" "sumEnd" "I"]
def wsL_law0_r30 : List Cond := [Cond.methodLink RX6 218 yX7_nextPact, Cond.instanceMethod yX7_nextPact, Cond.selects RX7 yX7_nextPact yX7_nextPact, Cond.code yX7_nextPact cX7_nextPact 2 (some (.object "TideLots$Pact")), Cond.methodLink RX7 100 yX5_copyFrom, Cond.instanceMethod yX5_copyFrom, Cond.selects RX5 yX5_copyFrom yX5_copyFrom, Cond.code yX5_copyFrom cX5_copyFrom 3 none, Cond.fieldLink RX5 19 "TideLots$Pact" "sumStart" "I", Cond.fieldLink RX5 22 "TideLots$Pact" "sumEnd" "I", Cond.fieldLink RX5 25 "TideLots$Pact" "size" "I", Cond.fieldLink RX5 28 "TideLots$Pact" "shown" "I", Cond.fieldLink RX5 31 "TideLots$Pact" "hidden" "I", Cond.fieldLink RX5 34 "TideLots$Pact" "hidingTides" "I", Cond.methodLink RX6 225 yX6_takeMember, Cond.instanceMethod yX6_takeMember, Cond.selects RX6 yX6_takeMember yX6_takeMember, Cond.code yX6_takeMember cX6_takeMember 2 (some .boolean), Cond.methodLink RX6 261 yX5_has, Cond.instanceMethod yX5_has, Cond.selects RX5 yX5_has yX5_has, Cond.code yX5_has cX5_has 3 (some .boolean), Cond.methodLink RX6 264 yX5_add, Cond.instanceMethod yX5_add]
def wsL_law0_r31 : List Cond := [Cond.selects RX5 yX5_add yX5_add, Cond.code yX5_add cX5_add 2 none, Cond.methodLink RL 203 yX11_count, Cond.instanceMethod yX11_count, Cond.selects RX11 yX11_count yX11_count, Cond.code yX11_count cX11_count 2 (some .int), Cond.classLink RX11 92 "java/lang/IndexOutOfBoundsException", Cond.initialized "java/lang/IndexOutOfBoundsException", Cond.fieldLink RX11 68 "TideLots$Shore" "groundCount" "I", Cond.fieldLink RX11 71 "TideLots$Shore" "fisherCount" "I", Cond.fieldLink RX11 74 "TideLots$Shore" "goCount" "I", Cond.fieldLink RX11 77 "TideLots$Shore" "pactCount" "I", Cond.methodLink RX11 80 yX7_allFish, Cond.instanceMethod yX7_allFish, Cond.selects RX7 yX7_allFish yX7_allFish, Cond.code yX7_allFish cX7_allFish 3 (some .int), Cond.methodLink RX7 112 yX3_allFish, Cond.instanceMethod yX3_allFish, Cond.selects RX3 yX3_allFish yX3_allFish, Cond.code yX3_allFish cX3_allFish 3 (some .int), Cond.methodLink RX11 83 yX7_allStores, Cond.instanceMethod yX7_allStores, Cond.selects RX7 yX7_allStores yX7_allStores, Cond.code yX7_allStores cX7_allStores 3 (some .int)]
def wsL_law0_r32 : List Cond := [Cond.fieldLink RX7 116 "TideLots$Fisher" "store" "I", Cond.methodLink RX11 86 yX7_widenedNets, Cond.instanceMethod yX7_widenedNets, Cond.selects RX7 yX7_widenedNets yX7_widenedNets, Cond.code yX7_widenedNets cX7_widenedNets 3 (some .int), Cond.fieldLink RX7 119 "TideLots$Fisher" "mesh" "I", Cond.fieldLink RX7 122 "TideLots$Fisher" "toldMesh" "I", Cond.methodLink RX11 89 yX7_allCheats, Cond.instanceMethod yX7_allCheats, Cond.selects RX7 yX7_allCheats yX7_allCheats, Cond.code yX7_allCheats cX7_allCheats 3 (some .int), Cond.fieldLink RX7 125 "TideLots$Fisher" "isCheat" "Z", Cond.methodLink RL 206 yX11_fisher, Cond.instanceMethod yX11_fisher, Cond.selects RX11 yX11_fisher yX11_fisher, Cond.code yX11_fisher cX11_fisher 4 (some .int), Cond.fieldLink RX11 125 "TideLots$Shore" "fishers" "[LTideLots$Fisher;", Cond.fieldLink RX11 129 "TideLots$Fisher" "mesh" "I", Cond.fieldLink RX11 134 "TideLots$Fisher" "toldMesh" "I", Cond.fieldLink RX11 137 "TideLots$Fisher" "net" "I", Cond.fieldLink RX11 140 "TideLots$Fisher" "hold" "I", Cond.fieldLink RX11 143 "TideLots$Fisher" "store" "I", Cond.fieldLink RX11 146 "TideLots$Fisher" "latest" "I", Cond.fieldLink RX11 149 "TideLots$Fisher" "place" "I"]
def wsL_law0_r33 : List Cond := [Cond.fieldLink RX11 152 "TideLots$Fisher" "tears" "I", Cond.fieldLink RX11 155 "TideLots$Fisher" "isCheat" "Z", Cond.fieldLink RX11 159 "TideLots$Fisher" "caught" "I", Cond.methodLink RX11 122 yX11_checkFisher, Cond.instanceMethod yX11_checkFisher, Cond.selects RX11 yX11_checkFisher yX11_checkFisher, Cond.code yX11_checkFisher cX11_checkFisher 2 none, Cond.methodLink RL 208 yX11_cheat, Cond.instanceMethod yX11_cheat, Cond.selects RX11 yX11_cheat yX11_cheat, Cond.code yX11_cheat cX11_cheat 3 (some .int), Cond.methodLink RL 213 yX11_ground, Cond.instanceMethod yX11_ground, Cond.selects RX11 yX11_ground yX11_ground, Cond.code yX11_ground cX11_ground 4 (some .int), Cond.fieldLink RX11 100 "TideLots$Shore" "grounds" "[LTideLots$Ground;", Cond.fieldLink RX11 107 "TideLots$Ground" "fish" "[I", Cond.fieldLink RX11 111 "TideLots$Ground" "room" "I", Cond.fieldLink RX11 114 "TideLots$Ground" "boats" "I", Cond.fieldLink RX11 117 "TideLots$Ground" "caught" "I", Cond.methodLink RX11 97 yX11_checkGround, Cond.instanceMethod yX11_checkGround, Cond.selects RX11 yX11_checkGround yX11_checkGround, Cond.code yX11_checkGround cX11_checkGround 2 none]
def wsL_law0_r34 : List Cond := [Cond.methodLink RX11 104 yX3_allFish, Cond.methodLink RL 215 yX11_pact, Cond.instanceMethod yX11_pact, Cond.selects RX11 yX11_pact yX11_pact, Cond.code yX11_pact cX11_pact 4 (some .int), Cond.fieldLink RX11 164 "TideLots$Shore" "pacts" "[LTideLots$Pact;", Cond.fieldLink RX11 174 "TideLots$Pact" "ground" "I", Cond.fieldLink RX11 177 "TideLots$Pact" "size" "I", Cond.fieldLink RX11 180 "TideLots$Pact" "fishers" "[I", Cond.fieldLink RX11 182 "TideLots$Pact" "shown" "I", Cond.fieldLink RX11 185 "TideLots$Pact" "hidden" "I", Cond.fieldLink RX11 188 "TideLots$Pact" "hidingTides" "I", Cond.methodLink RX11 168 yX5_splits, Cond.instanceMethod yX5_splits, Cond.selects RX5 yX5_splits yX5_splits, Cond.code yX5_splits cX5_splits 1 (some .boolean), Cond.methodLink RL 217 yX11_lot, Cond.instanceMethod yX11_lot, Cond.selects RX11 yX11_lot yX11_lot, Cond.code yX11_lot cX11_lot 2 (some .int), Cond.fieldLink RX11 200 "TideLots$Shore" "lots" "[I", Cond.methodLink RX11 197 yX7_drawLots, Cond.instanceMethod yX7_drawLots, Cond.selects RX7 yX7_drawLots yX7_drawLots]
def wsL_law0_r35 : List Cond := [Cond.code yX7_drawLots cX7_drawLots 5 (some .int), Cond.constant RX7 132 (69069), Cond.methodLink RL 220 yX11_digest, Cond.instanceMethod yX11_digest, Cond.selects RX11 yX11_digest yX11_digest, Cond.code yX11_digest cX11_digest 5 (some .long), Cond.constantLong RX11 223 (739), Cond.constantLong RX11 225 (31), Cond.methodLink RX11 227 yX11_count, Cond.methodLink RX11 230 yX11_ground, Cond.methodLink RX11 233 yX11_took, Cond.instanceMethod yX11_took, Cond.selects RX11 yX11_took yX11_took, Cond.code yX11_took cX11_took 3 (some .int), Cond.fieldLink RX11 203 "TideLots$Fisher" "took" "[I", Cond.methodLink RX11 235 yX11_fisher, Cond.methodLink RX11 238 yX11_pact, Cond.methodLink RL 224 yX11_foresee, Cond.instanceMethod yX11_foresee, Cond.selects RX11 yX11_foresee yX11_foresee, Cond.code yX11_foresee cX11_foresee 4 (some .int), Cond.methodLink RX11 209 yX11_checkTides, Cond.static yX11_checkTides, Cond.code yX11_checkTides cX11_checkTides 2 none]
def wsL_law0_r36 : List Cond := [Cond.methodLink RX11 219 yX11_lookAhead, Cond.instanceMethod yX11_lookAhead, Cond.selects RX11 yX11_lookAhead yX11_lookAhead, Cond.code yX11_lookAhead cX11_lookAhead 1 (some (.object "TideLots$Shore")), Cond.methodLink RX11 241 yX7_copyFrom, Cond.instanceMethod yX7_copyFrom, Cond.selects RX7 yX7_copyFrom yX7_copyFrom, Cond.code yX7_copyFrom cX7_copyFrom 3 none, Cond.fieldLink RX7 103 "TideLots$Shore" "tide" "I", Cond.methodLink RX7 106 yX2_copyFrom, Cond.instanceMethod yX2_copyFrom, Cond.selects RX2 yX2_copyFrom yX2_copyFrom, Cond.code yX2_copyFrom cX2_copyFrom 2 none, Cond.fieldLink RX2 7 "TideLots$Go" "fisher" "I", Cond.fieldLink RX2 13 "TideLots$Go" "ground" "I", Cond.fieldLink RX2 16 "TideLots$Go" "testStart" "I", Cond.fieldLink RX2 19 "TideLots$Go" "testEnd" "I", Cond.methodLink RX7 109 yX9_copyFrom, Cond.instanceMethod yX9_copyFrom, Cond.selects RX9 yX9_copyFrom yX9_copyFrom, Cond.code yX9_copyFrom cX9_copyFrom 3 none, Cond.methodLink RX11 213 yX7_passTides, Cond.instanceMethod yX7_passTides, Cond.selects RX7 yX7_passTides yX7_passTides]
def wsL_law0_r37 : List Cond := [Cond.code yX7_passTides cX7_passTides 5 (some .int), Cond.methodLink RX7 133 yX7_drawLots, Cond.methodLink RX7 136 yX7_callBoatsHome, Cond.instanceMethod yX7_callBoatsHome, Cond.selects RX7 yX7_callBoatsHome yX7_callBoatsHome, Cond.code yX7_callBoatsHome cX7_callBoatsHome 2 none, Cond.fieldLink RX7 156 "TideLots$Ground" "boats" "I", Cond.methodLink RX7 139 yX7_firstGo, Cond.instanceMethod yX7_firstGo, Cond.selects RX7 yX7_firstGo yX7_firstGo, Cond.code yX7_firstGo cX7_firstGo 5 (some .int), Cond.fieldLink RX7 159 "TideLots$Go" "fisher" "I", Cond.fieldLink RX7 162 "TideLots$Go" "ground" "I", Cond.fieldLink RX7 165 "TideLots$Ground" "room" "I", Cond.fieldLink RX7 168 "TideLots$Go" "testStart" "I", Cond.fieldLink RX7 171 "TideLots$Go" "testEnd" "I", Cond.methodLink RX7 174 yX9_reckon, Cond.instanceMethod yX9_reckon, Cond.selects RX9 yX9_reckon yX9_reckon, Cond.code yX9_reckon cX9_reckon 6 (some .int), Cond.fieldLink RX9 32 "TideLots$1" "$SwitchMap$TideLots$Sign" "[I", Cond.fieldLink RX9 45 "TideLots$Sign" "NOT" "LTideLots$Sign;", Cond.methodLink RX9 37 ⟨"TideLots$Sign", "ordinal", "()I"⟩, Cond.methodLink RX9 41 yX9_valueOn]
def wsL_law0_r38 : List Cond := [Cond.static yX9_valueOn, Cond.code yX9_valueOn cX9_valueOn 3 (some .int), Cond.fieldLink RX9 52 "TideLots$Shore" "tide" "I", Cond.fieldLink RX9 57 "TideLots$Shore" "fishers" "[LTideLots$Fisher;", Cond.fieldLink RX9 61 "TideLots$Fisher" "store" "I", Cond.fieldLink RX9 66 "TideLots$Fisher" "latest" "I", Cond.fieldLink RX9 69 "TideLots$Fisher" "mesh" "I", Cond.fieldLink RX9 72 "TideLots$Fisher" "isCheat" "Z", Cond.fieldLink RX9 76 "TideLots$Shore" "grounds" "[LTideLots$Ground;", Cond.fieldLink RX9 85 "TideLots$Ground" "boats" "I", Cond.methodLink RX9 80 yX3_allFish, Cond.methodLink RX9 48 yX9_combine, Cond.static yX9_combine, Cond.code yX9_combine cX9_combine 3 (some .int), Cond.methodLink RX9 88 Lib.Math.min.name, Cond.methodLink RX9 94 Lib.Math.max.name, Cond.methodLink RX7 178 yX7_isSpared, Cond.instanceMethod yX7_isSpared, Cond.selects RX7 yX7_isSpared yX7_isSpared, Cond.code yX7_isSpared cX7_isSpared 5 (some .boolean), Cond.fieldLink RX7 182 "TideLots$Pact" "ground" "I", Cond.fieldLink RX7 187 "TideLots$Pact" "sumStart" "I", Cond.fieldLink RX7 190 "TideLots$Pact" "sumEnd" "I", Cond.methodLink RX7 183 yX5_has]
def wsL_law0_r39 : List Cond := [Cond.methodLink RX7 143 yX7_sail, Cond.instanceMethod yX7_sail, Cond.selects RX7 yX7_sail yX7_sail, Cond.code yX7_sail cX7_sail 6 none, Cond.fieldLink RX7 193 "TideLots$Fisher" "place" "I", Cond.fieldLink RX7 196 "TideLots$Fisher" "latest" "I", Cond.fieldLink RX7 207 "TideLots$Fisher" "took" "[I", Cond.methodLink RX7 199 yX7_haulFrom, Cond.instanceMethod yX7_haulFrom, Cond.selects RX7 yX7_haulFrom yX7_haulFrom, Cond.code yX7_haulFrom cX7_haulFrom 10 none, Cond.fieldLink RX7 210 "TideLots$Ground" "fish" "[I", Cond.fieldLink RX7 213 "TideLots$Fisher" "hold" "I", Cond.fieldLink RX7 216 "TideLots$Fisher" "net" "I", Cond.methodLink RX7 219 yX1_tear, Cond.instanceMethod yX1_tear, Cond.selects RX1 yX1_tear yX1_tear, Cond.code yX1_tear cX1_tear 1 none, Cond.methodLink RX1 47 Lib.Math.min.name, Cond.methodLink RX7 203 yX7_landHaul, Cond.instanceMethod yX7_landHaul, Cond.selects RX7 yX7_landHaul yX7_landHaul, Cond.code yX7_landHaul cX7_landHaul 5 (some .int), Cond.fieldLink RX7 222 "TideLots$Fisher" "caught" "I"]
def wsL_law0_r40 : List Cond := [Cond.fieldLink RX7 225 "TideLots$Ground" "caught" "I", Cond.methodLink RX7 147 yX7_split, Cond.instanceMethod yX7_split, Cond.selects RX7 yX7_split yX7_split, Cond.code yX7_split cX7_split 7 none, Cond.fieldLink RX7 230 "TideLots$Pact" "size" "I", Cond.fieldLink RX7 233 "TideLots$Pact" "fishers" "[I", Cond.fieldLink RX7 235 "TideLots$Pact" "shown" "I", Cond.fieldLink RX7 238 "TideLots$Pact" "hidden" "I", Cond.fieldLink RX7 241 "TideLots$Pact" "hidingTides" "I", Cond.methodLink RX7 226 yX5_splits, Cond.methodLink RX7 150 yX7_storeCatches, Cond.instanceMethod yX7_storeCatches, Cond.selects RX7 yX7_storeCatches yX7_storeCatches, Cond.code yX7_storeCatches cX7_storeCatches 3 (some .int), Cond.methodLink RX7 153 yX3_grow, Cond.instanceMethod yX3_grow, Cond.selects RX3 yX3_grow yX3_grow, Cond.code yX3_grow cX3_grow 3 none, Cond.methodLink RX3 25 Lib.Math.min.name, Cond.methodLink RX3 31 yX3_allFish, Cond.methodLink RX11 206 yX7_storeGap, Cond.instanceMethod yX7_storeGap, Cond.selects RX7 yX7_storeGap yX7_storeGap]
def wsL_law0_r41 : List Cond := [Cond.code yX7_storeGap cX7_storeGap 4 (some .int), Cond.methodLink RX7 129 Lib.Math.max.name, Cond.methodLink RL 227 yX11_empty, Cond.instanceMethod yX11_empty, Cond.selects RX11 yX11_empty yX11_empty, Cond.code yX11_empty cX11_empty 4 (some .int), Cond.methodLink RL 230 yX11_pays, Cond.instanceMethod yX11_pays, Cond.selects RX11 yX11_pays yX11_pays, Cond.code yX11_pays cX11_pays 5 (some .int), Cond.methodLink RL 233 yX11_advise, Cond.instanceMethod yX11_advise, Cond.selects RX11 yX11_advise yX11_advise, Cond.code yX11_advise cX11_advise 7 (some .int), Cond.methodLink RL 236 yX11_blame, Cond.instanceMethod yX11_blame, Cond.selects RX11 yX11_blame yX11_blame, Cond.code yX11_blame cX11_blame 6 (some .int), Cond.methodLink RL 239 yX11_pass, Cond.instanceMethod yX11_pass, Cond.selects RX11 yX11_pass yX11_pass, Cond.code yX11_pass cX11_pass 2 (some .int), Cond.methodLink RL 242 yX11_gap, Cond.instanceMethod yX11_gap]
def wsL_law0_r42 : List Cond := [Cond.selects RX11 yX11_gap yX11_gap, Cond.code yX11_gap cX11_gap 1 (some .int), Cond.methodLink RL 245 yX11_took]
def wsL_law0 : List Cond := (wsL_law0_r1 ++ (wsL_law0_r2 ++ (wsL_law0_r3 ++ (wsL_law0_r4 ++ (wsL_law0_r5 ++ (wsL_law0_r6 ++ (wsL_law0_r7 ++ (wsL_law0_r8 ++ (wsL_law0_r9 ++ (wsL_law0_r10 ++ (wsL_law0_r11 ++ (wsL_law0_r12 ++ (wsL_law0_r13 ++ (wsL_law0_r14 ++ (wsL_law0_r15 ++ (wsL_law0_r16 ++ (wsL_law0_r17 ++ (wsL_law0_r18 ++ (wsL_law0_r19 ++ (wsL_law0_r20 ++ (wsL_law0_r21 ++ (wsL_law0_r22 ++ (wsL_law0_r23 ++ (wsL_law0_r24 ++ (wsL_law0_r25 ++ (wsL_law0_r26 ++ (wsL_law0_r27 ++ (wsL_law0_r28 ++ (wsL_law0_r29 ++ (wsL_law0_r30 ++ (wsL_law0_r31 ++ (wsL_law0_r32 ++ (wsL_law0_r33 ++ (wsL_law0_r34 ++ (wsL_law0_r35 ++ (wsL_law0_r36 ++ (wsL_law0_r37 ++ (wsL_law0_r38 ++ (wsL_law0_r39 ++ (wsL_law0_r40 ++ (wsL_law0_r41 ++ wsL_law0_r42))))))))))))))))))))))))))))))))))))))))) ++ wsJ40 ++ wsX110 ++ wsX120 ++ wsJ00 ++ wsX100 ++ wsX70 ++ wsX90 ++ wsX30 ++ wsX10 ++ wsX50 ++ wsX20 ++ wsX60 ++ wsX40 ++ ([] : List Cond)
def wsL_law : List Cond := wsL_law0_r1 ++ wsL_law0_r2 ++ wsL_law0_r3 ++ wsL_law0_r4 ++ wsL_law0_r5 ++ wsL_law0_r6 ++ wsL_law0_r7 ++ wsL_law0_r8 ++ wsL_law0_r9 ++ wsL_law0_r10 ++ wsL_law0_r11 ++ wsL_law0_r12 ++ wsL_law0_r13 ++ wsL_law0_r14 ++ wsL_law0_r15 ++ wsL_law0_r16 ++ wsL_law0_r17 ++ wsL_law0_r18 ++ wsL_law0_r19 ++ wsL_law0_r20 ++ wsL_law0_r21 ++ wsL_law0_r22 ++ wsL_law0_r23 ++ wsL_law0_r24 ++ wsL_law0_r25 ++ wsL_law0_r26 ++ wsL_law0_r27 ++ wsL_law0_r28 ++ wsL_law0_r29 ++ wsL_law0_r30 ++ wsL_law0_r31 ++ wsL_law0_r32 ++ wsL_law0_r33 ++ wsL_law0_r34 ++ wsL_law0_r35 ++ wsL_law0_r36 ++ wsL_law0_r37 ++ wsL_law0_r38 ++ wsL_law0_r39 ++ wsL_law0_r40 ++ wsL_law0_r41 ++ wsL_law0_r42
section
variable {p : Program} {l : Launch} {e : Env} {s : State} {m : MethodId} {args : Array Value} {below : List Frame} {meth : Method} {c : Code} {D : va_G} {cy : Nat → ClassId} {B : Nat} {H0 : Heap} {Z : Nat → Nat}
/-! ## TideLotsLaw.law([I)Z -/
theorem dL_law_0 : decode cL_law 0 = .ok (.new 32, 3) := by decide +kernel
theorem dL_law_3 : decode cL_law 3 = .ok (.dup, 1) := by decide +kernel
theorem dL_law_4 : decode cL_law 4 = .ok (.invokespecial 34, 3) := by decide +kernel
theorem dL_law_7 : decode cL_law 7 = .ok (.astore_n 1, 1) := by decide +kernel
theorem dL_law_8 : decode cL_law 8 = .ok (.aload_n 0, 1) := by decide +kernel
theorem dL_law_9 : decode cL_law 9 = .ok (.aload_n 1, 1) := by decide +kernel
theorem dL_law_10 : decode cL_law 10 = .ok (.invokestatic 194, 3) := by decide +kernel
theorem dL_law_13 : decode cL_law 13 = .ok (.astore_n 2, 1) := by decide +kernel
theorem dL_law_14 : decode cL_law 14 = .ok (.new 10, 3) := by decide +kernel
theorem dL_law_17 : decode cL_law 17 = .ok (.dup, 1) := by decide +kernel
theorem dL_law_18 : decode cL_law 18 = .ok (.invokespecial 198, 3) := by decide +kernel
theorem dL_law_21 : decode cL_law 21 = .ok (.astore_n 3, 1) := by decide +kernel
theorem dL_law_22 : decode cL_law 22 = .ok (.aload_n 3, 1) := by decide +kernel
theorem dL_law_23 : decode cL_law 23 = .ok (.aload_n 1, 1) := by decide +kernel
theorem dL_law_24 : decode cL_law 24 = .ok (.invokevirtual 50, 3) := by decide +kernel
theorem dL_law_27 : decode cL_law 27 = .ok (.invokestatic 199, 3) := by decide +kernel
theorem dL_law_30 : decode cL_law 30 = .ok (.ifCond .eq 5, 3) := by decide +kernel
theorem dL_law_33 : decode cL_law 33 = .ok (.iconst 0, 1) := by decide +kernel
theorem dL_law_34 : decode cL_law 34 = .ok (.ireturn, 1) := by decide +kernel
theorem dL_law_35 : decode cL_law 35 = .ok (.aload_n 3, 1) := by decide +kernel
theorem dL_law_36 : decode cL_law 36 = .ok (.iconst 2, 1) := by decide +kernel
theorem dL_law_37 : decode cL_law 37 = .ok (.invokevirtual 203, 3) := by decide +kernel
theorem dL_law_40 : decode cL_law 40 = .ok (.istore 4, 2) := by decide +kernel
theorem dL_law_42 : decode cL_law 42 = .ok (.aload_n 3, 1) := by decide +kernel
theorem dL_law_43 : decode cL_law 43 = .ok (.iconst 1, 1) := by decide +kernel
theorem dL_law_44 : decode cL_law 44 = .ok (.invokevirtual 203, 3) := by decide +kernel
theorem dL_law_47 : decode cL_law 47 = .ok (.istore 5, 2) := by decide +kernel
theorem dL_law_49 : decode cL_law 49 = .ok (.aload_n 3, 1) := by decide +kernel
theorem dL_law_50 : decode cL_law 50 = .ok (.iconst 4, 1) := by decide +kernel
theorem dL_law_51 : decode cL_law 51 = .ok (.invokevirtual 203, 3) := by decide +kernel
theorem dL_law_54 : decode cL_law 54 = .ok (.istore 6, 2) := by decide +kernel
theorem dL_law_56 : decode cL_law 56 = .ok (.iconst 0, 1) := by decide +kernel
theorem dL_law_57 : decode cL_law 57 = .ok (.istore 7, 2) := by decide +kernel
theorem dL_law_59 : decode cL_law 59 = .ok (.iload 7, 2) := by decide +kernel
theorem dL_law_61 : decode cL_law 61 = .ok (.bipush 30, 2) := by decide +kernel
theorem dL_law_63 : decode cL_law 63 = .ok (.if_icmp .ge 1531, 3) := by decide +kernel
theorem dL_law_66 : decode cL_law 66 = .ok (.aload_n 0, 1) := by decide +kernel
theorem dL_law_67 : decode cL_law 67 = .ok (.iload 7, 2) := by decide +kernel
theorem dL_law_69 : decode cL_law 69 = .ok (.bipush 16, 2) := by decide +kernel
theorem dL_law_71 : decode cL_law 71 = .ok (.irem, 1) := by decide +kernel
theorem dL_law_72 : decode cL_law 72 = .ok (.invokestatic 118, 3) := by decide +kernel
theorem dL_law_75 : decode cL_law 75 = .ok (.iload 7, 2) := by decide +kernel
theorem dL_law_77 : decode cL_law 77 = .ok (.bipush 16, 2) := by decide +kernel
theorem dL_law_79 : decode cL_law 79 = .ok (.idiv, 1) := by decide +kernel
theorem dL_law_80 : decode cL_law 80 = .ok (.bipush 6, 2) := by decide +kernel
theorem dL_law_82 : decode cL_law 82 = .ok (.imul, 1) := by decide +kernel
theorem dL_law_83 : decode cL_law 83 = .ok (.ishr, 1) := by decide +kernel
theorem dL_law_84 : decode cL_law 84 = .ok (.istore 8, 2) := by decide +kernel
theorem dL_law_86 : decode cL_law 86 = .ok (.iload 8, 2) := by decide +kernel
theorem dL_law_88 : decode cL_law 88 = .ok (.iconst 3, 1) := by decide +kernel
theorem dL_law_89 : decode cL_law 89 = .ok (.ishr, 1) := by decide +kernel
theorem dL_law_90 : decode cL_law 90 = .ok (.iload 4, 2) := by decide +kernel
theorem dL_law_92 : decode cL_law 92 = .ok (.invokestatic 124, 3) := by decide +kernel
theorem dL_law_95 : decode cL_law 95 = .ok (.istore 9, 2) := by decide +kernel
theorem dL_law_97 : decode cL_law 97 = .ok (.iload 8, 2) := by decide +kernel
theorem dL_law_99 : decode cL_law 99 = .ok (.iconst 4, 1) := by decide +kernel
theorem dL_law_100 : decode cL_law 100 = .ok (.invokestatic 124, 3) := by decide +kernel
theorem dL_law_103 : decode cL_law 103 = .ok (.ifCond .ne 85, 3) := by decide +kernel
theorem dL_law_106 : decode cL_law 106 = .ok (.aload_n 3, 1) := by decide +kernel
theorem dL_law_107 : decode cL_law 107 = .ok (.bipush 8, 2) := by decide +kernel
theorem dL_law_109 : decode cL_law 109 = .ok (.invokevirtual 203, 3) := by decide +kernel
theorem dL_law_112 : decode cL_law 112 = .ok (.aload_n 3, 1) := by decide +kernel
theorem dL_law_113 : decode cL_law 113 = .ok (.iload 9, 2) := by decide +kernel
theorem dL_law_115 : decode cL_law 115 = .ok (.bipush 8, 2) := by decide +kernel
theorem dL_law_117 : decode cL_law 117 = .ok (.invokevirtual 206, 3) := by decide +kernel
theorem dL_law_120 : decode cL_law 120 = .ok (.isub, 1) := by decide +kernel
theorem dL_law_121 : decode cL_law 121 = .ok (.istore 10, 2) := by decide +kernel
theorem dL_law_123 : decode cL_law 123 = .ok (.iload 8, 2) := by decide +kernel
theorem dL_law_125 : decode cL_law 125 = .ok (.iconst 5, 1) := by decide +kernel
theorem dL_law_126 : decode cL_law 126 = .ok (.ishr, 1) := by decide +kernel
theorem dL_law_127 : decode cL_law 127 = .ok (.iconst 2, 1) := by decide +kernel
theorem dL_law_128 : decode cL_law 128 = .ok (.invokestatic 124, 3) := by decide +kernel
theorem dL_law_131 : decode cL_law 131 = .ok (.ifCond .ne 7, 3) := by decide +kernel
theorem dL_law_134 : decode cL_law 134 = .ok (.iconst 1, 1) := by decide +kernel
theorem dL_law_135 : decode cL_law 135 = .ok (.goto 4, 3) := by decide +kernel
theorem dL_law_138 : decode cL_law 138 = .ok (.iconst 0, 1) := by decide +kernel
theorem dL_law_139 : decode cL_law 139 = .ok (.istore 11, 2) := by decide +kernel
theorem dL_law_141 : decode cL_law 141 = .ok (.aload_n 3, 1) := by decide +kernel
theorem dL_law_142 : decode cL_law 142 = .ok (.iload 9, 2) := by decide +kernel
theorem dL_law_144 : decode cL_law 144 = .ok (.iload 11, 2) := by decide +kernel
theorem dL_law_146 : decode cL_law 146 = .ok (.invokevirtual 208, 3) := by decide +kernel
theorem dL_law_149 : decode cL_law 149 = .ok (.iload 10, 2) := by decide +kernel
theorem dL_law_151 : decode cL_law 151 = .ok (.iload 11, 2) := by decide +kernel
theorem dL_law_153 : decode cL_law 153 = .ok (.ifCond .eq 7, 3) := by decide +kernel
theorem dL_law_156 : decode cL_law 156 = .ok (.iconst 1, 1) := by decide +kernel
theorem dL_law_157 : decode cL_law 157 = .ok (.goto 4, 3) := by decide +kernel
theorem dL_law_160 : decode cL_law 160 = .ok (.iconst 0, 1) := by decide +kernel
theorem dL_law_161 : decode cL_law 161 = .ok (.iadd, 1) := by decide +kernel
theorem dL_law_162 : decode cL_law 162 = .ok (.if_icmp .ne 24, 3) := by decide +kernel
theorem dL_law_165 : decode cL_law 165 = .ok (.aload_n 3, 1) := by decide +kernel
theorem dL_law_166 : decode cL_law 166 = .ok (.iload 9, 2) := by decide +kernel
theorem dL_law_168 : decode cL_law 168 = .ok (.bipush 8, 2) := by decide +kernel
theorem dL_law_170 : decode cL_law 170 = .ok (.invokevirtual 206, 3) := by decide +kernel
theorem dL_law_173 : decode cL_law 173 = .ok (.iload 11, 2) := by decide +kernel
theorem dL_law_175 : decode cL_law 175 = .ok (.ifCond .eq 7, 3) := by decide +kernel
theorem dL_law_178 : decode cL_law 178 = .ok (.iconst 1, 1) := by decide +kernel
theorem dL_law_179 : decode cL_law 179 = .ok (.goto 4, 3) := by decide +kernel
theorem dL_law_182 : decode cL_law 182 = .ok (.iconst 0, 1) := by decide +kernel
theorem dL_law_183 : decode cL_law 183 = .ok (.if_icmp .eq 5, 3) := by decide +kernel
theorem dL_law_186 : decode cL_law 186 = .ok (.iconst 0, 1) := by decide +kernel
theorem dL_law_187 : decode cL_law 187 = .ok (.ireturn, 1) := by decide +kernel
theorem dL_law_188 : decode cL_law 188 = .ok (.iload 4, 2) := by decide +kernel
theorem dL_law_190 : decode cL_law 190 = .ok (.bipush 10, 2) := by decide +kernel
theorem dL_law_192 : decode cL_law 192 = .ok (.multianewarray 212 2, 4) := by decide +kernel
theorem dL_law_196 : decode cL_law 196 = .ok (.astore 10, 2) := by decide +kernel
theorem dL_law_198 : decode cL_law 198 = .ok (.iconst 0, 1) := by decide +kernel
theorem dL_law_199 : decode cL_law 199 = .ok (.istore 11, 2) := by decide +kernel
theorem dL_law_201 : decode cL_law 201 = .ok (.iload 11, 2) := by decide +kernel
theorem dL_law_203 : decode cL_law 203 = .ok (.iload 4, 2) := by decide +kernel
theorem dL_law_205 : decode cL_law 205 = .ok (.if_icmp .ge 41, 3) := by decide +kernel
theorem dL_law_208 : decode cL_law 208 = .ok (.iconst 0, 1) := by decide +kernel
theorem dL_law_209 : decode cL_law 209 = .ok (.istore 12, 2) := by decide +kernel
theorem dL_law_211 : decode cL_law 211 = .ok (.iload 12, 2) := by decide +kernel
theorem dL_law_213 : decode cL_law 213 = .ok (.bipush 10, 2) := by decide +kernel
theorem dL_law_215 : decode cL_law 215 = .ok (.if_icmp .ge 25, 3) := by decide +kernel
theorem dL_law_218 : decode cL_law 218 = .ok (.aload 10, 2) := by decide +kernel
theorem dL_law_220 : decode cL_law 220 = .ok (.iload 11, 2) := by decide +kernel
theorem dL_law_222 : decode cL_law 222 = .ok (.aaload, 1) := by decide +kernel
theorem dL_law_223 : decode cL_law 223 = .ok (.iload 12, 2) := by decide +kernel
theorem dL_law_225 : decode cL_law 225 = .ok (.aload_n 3, 1) := by decide +kernel
theorem dL_law_226 : decode cL_law 226 = .ok (.iload 11, 2) := by decide +kernel
theorem dL_law_228 : decode cL_law 228 = .ok (.iload 12, 2) := by decide +kernel
theorem dL_law_230 : decode cL_law 230 = .ok (.invokevirtual 206, 3) := by decide +kernel
theorem dL_law_233 : decode cL_law 233 = .ok (.iastore, 1) := by decide +kernel
theorem dL_law_234 : decode cL_law 234 = .ok (.iinc 12 1, 3) := by decide +kernel
theorem dL_law_237 : decode cL_law 237 = .ok (.goto (-26), 3) := by decide +kernel
theorem dL_law_240 : decode cL_law 240 = .ok (.iinc 11 1, 3) := by decide +kernel
theorem dL_law_243 : decode cL_law 243 = .ok (.goto (-42), 3) := by decide +kernel
theorem dL_law_246 : decode cL_law 246 = .ok (.iload 5, 2) := by decide +kernel
theorem dL_law_248 : decode cL_law 248 = .ok (.bipush 9, 2) := by decide +kernel
theorem dL_law_250 : decode cL_law 250 = .ok (.multianewarray 212 2, 4) := by decide +kernel
theorem dL_law_254 : decode cL_law 254 = .ok (.astore 11, 2) := by decide +kernel
theorem dL_law_256 : decode cL_law 256 = .ok (.iconst 0, 1) := by decide +kernel
theorem dL_law_257 : decode cL_law 257 = .ok (.istore 12, 2) := by decide +kernel
theorem dL_law_259 : decode cL_law 259 = .ok (.iload 12, 2) := by decide +kernel
theorem dL_law_261 : decode cL_law 261 = .ok (.iload 5, 2) := by decide +kernel
theorem dL_law_263 : decode cL_law 263 = .ok (.if_icmp .ge 41, 3) := by decide +kernel
theorem dL_law_266 : decode cL_law 266 = .ok (.iconst 0, 1) := by decide +kernel
theorem dL_law_267 : decode cL_law 267 = .ok (.istore 13, 2) := by decide +kernel
theorem dL_law_269 : decode cL_law 269 = .ok (.iload 13, 2) := by decide +kernel
theorem dL_law_271 : decode cL_law 271 = .ok (.bipush 9, 2) := by decide +kernel
theorem dL_law_273 : decode cL_law 273 = .ok (.if_icmp .ge 25, 3) := by decide +kernel
theorem dL_law_276 : decode cL_law 276 = .ok (.aload 11, 2) := by decide +kernel
theorem dL_law_278 : decode cL_law 278 = .ok (.iload 12, 2) := by decide +kernel
theorem dL_law_280 : decode cL_law 280 = .ok (.aaload, 1) := by decide +kernel
theorem dL_law_281 : decode cL_law 281 = .ok (.iload 13, 2) := by decide +kernel
theorem dL_law_283 : decode cL_law 283 = .ok (.aload_n 3, 1) := by decide +kernel
theorem dL_law_284 : decode cL_law 284 = .ok (.iload 12, 2) := by decide +kernel
theorem dL_law_286 : decode cL_law 286 = .ok (.iload 13, 2) := by decide +kernel
theorem dL_law_288 : decode cL_law 288 = .ok (.invokevirtual 213, 3) := by decide +kernel
theorem dL_law_291 : decode cL_law 291 = .ok (.iastore, 1) := by decide +kernel
theorem dL_law_292 : decode cL_law 292 = .ok (.iinc 13 1, 3) := by decide +kernel
theorem dL_law_295 : decode cL_law 295 = .ok (.goto (-26), 3) := by decide +kernel
theorem dL_law_298 : decode cL_law 298 = .ok (.iinc 12 1, 3) := by decide +kernel
theorem dL_law_301 : decode cL_law 301 = .ok (.goto (-42), 3) := by decide +kernel
theorem dL_law_304 : decode cL_law 304 = .ok (.iload 6, 2) := by decide +kernel
theorem dL_law_306 : decode cL_law 306 = .ok (.bipush 7, 2) := by decide +kernel
theorem dL_law_308 : decode cL_law 308 = .ok (.multianewarray 212 2, 4) := by decide +kernel
theorem dL_law_312 : decode cL_law 312 = .ok (.astore 12, 2) := by decide +kernel
theorem dL_law_314 : decode cL_law 314 = .ok (.iconst 0, 1) := by decide +kernel
theorem dL_law_315 : decode cL_law 315 = .ok (.istore 13, 2) := by decide +kernel
theorem dL_law_317 : decode cL_law 317 = .ok (.iload 13, 2) := by decide +kernel
theorem dL_law_319 : decode cL_law 319 = .ok (.iload 6, 2) := by decide +kernel
theorem dL_law_321 : decode cL_law 321 = .ok (.if_icmp .ge 41, 3) := by decide +kernel
theorem dL_law_324 : decode cL_law 324 = .ok (.iconst 0, 1) := by decide +kernel
theorem dL_law_325 : decode cL_law 325 = .ok (.istore 14, 2) := by decide +kernel
theorem dL_law_327 : decode cL_law 327 = .ok (.iload 14, 2) := by decide +kernel
theorem dL_law_329 : decode cL_law 329 = .ok (.bipush 7, 2) := by decide +kernel
theorem dL_law_331 : decode cL_law 331 = .ok (.if_icmp .ge 25, 3) := by decide +kernel
theorem dL_law_334 : decode cL_law 334 = .ok (.aload 12, 2) := by decide +kernel
theorem dL_law_336 : decode cL_law 336 = .ok (.iload 13, 2) := by decide +kernel
theorem dL_law_338 : decode cL_law 338 = .ok (.aaload, 1) := by decide +kernel
theorem dL_law_339 : decode cL_law 339 = .ok (.iload 14, 2) := by decide +kernel
theorem dL_law_341 : decode cL_law 341 = .ok (.aload_n 3, 1) := by decide +kernel
theorem dL_law_342 : decode cL_law 342 = .ok (.iload 13, 2) := by decide +kernel
theorem dL_law_344 : decode cL_law 344 = .ok (.iload 14, 2) := by decide +kernel
theorem dL_law_346 : decode cL_law 346 = .ok (.invokevirtual 215, 3) := by decide +kernel
theorem dL_law_349 : decode cL_law 349 = .ok (.iastore, 1) := by decide +kernel
theorem dL_law_350 : decode cL_law 350 = .ok (.iinc 14 1, 3) := by decide +kernel
theorem dL_law_353 : decode cL_law 353 = .ok (.goto (-26), 3) := by decide +kernel
theorem dL_law_356 : decode cL_law 356 = .ok (.iinc 13 1, 3) := by decide +kernel
theorem dL_law_359 : decode cL_law 359 = .ok (.goto (-42), 3) := by decide +kernel
theorem dL_law_362 : decode cL_law 362 = .ok (.aload_n 3, 1) := by decide +kernel
theorem dL_law_363 : decode cL_law 363 = .ok (.iconst 0, 1) := by decide +kernel
theorem dL_law_364 : decode cL_law 364 = .ok (.invokevirtual 203, 3) := by decide +kernel
theorem dL_law_367 : decode cL_law 367 = .ok (.istore 13, 2) := by decide +kernel
theorem dL_law_369 : decode cL_law 369 = .ok (.aload_n 3, 1) := by decide +kernel
theorem dL_law_370 : decode cL_law 370 = .ok (.bipush 6, 2) := by decide +kernel
theorem dL_law_372 : decode cL_law 372 = .ok (.invokevirtual 203, 3) := by decide +kernel
theorem dL_law_375 : decode cL_law 375 = .ok (.istore 14, 2) := by decide +kernel
theorem dL_law_377 : decode cL_law 377 = .ok (.iload 4, 2) := by decide +kernel
theorem dL_law_379 : decode cL_law 379 = .ok (.newarray .boolean, 2) := by decide +kernel
theorem dL_law_381 : decode cL_law 381 = .ok (.astore 15, 2) := by decide +kernel
theorem dL_law_383 : decode cL_law 383 = .ok (.iconst 0, 1) := by decide +kernel
theorem dL_law_384 : decode cL_law 384 = .ok (.istore 16, 2) := by decide +kernel
theorem dL_law_386 : decode cL_law 386 = .ok (.iload 16, 2) := by decide +kernel
theorem dL_law_388 : decode cL_law 388 = .ok (.iload 4, 2) := by decide +kernel
theorem dL_law_390 : decode cL_law 390 = .ok (.if_icmp .ge 53, 3) := by decide +kernel
theorem dL_law_393 : decode cL_law 393 = .ok (.aload_n 3, 1) := by decide +kernel
theorem dL_law_394 : decode cL_law 394 = .ok (.iload 16, 2) := by decide +kernel
theorem dL_law_396 : decode cL_law 396 = .ok (.invokevirtual 217, 3) := by decide +kernel
theorem dL_law_399 : decode cL_law 399 = .ok (.ifCond .lt 26, 3) := by decide +kernel
theorem dL_law_402 : decode cL_law 402 = .ok (.aload_n 3, 1) := by decide +kernel
theorem dL_law_403 : decode cL_law 403 = .ok (.iload 16, 2) := by decide +kernel
theorem dL_law_405 : decode cL_law 405 = .ok (.invokevirtual 217, 3) := by decide +kernel
theorem dL_law_408 : decode cL_law 408 = .ok (.iload 4, 2) := by decide +kernel
theorem dL_law_410 : decode cL_law 410 = .ok (.if_icmp .ge 15, 3) := by decide +kernel
theorem dL_law_413 : decode cL_law 413 = .ok (.aload 15, 2) := by decide +kernel
theorem dL_law_415 : decode cL_law 415 = .ok (.aload_n 3, 1) := by decide +kernel
theorem dL_law_416 : decode cL_law 416 = .ok (.iload 16, 2) := by decide +kernel
theorem dL_law_418 : decode cL_law 418 = .ok (.invokevirtual 217, 3) := by decide +kernel
theorem dL_law_421 : decode cL_law 421 = .ok (.baload, 1) := by decide +kernel
theorem dL_law_422 : decode cL_law 422 = .ok (.ifCond .eq 5, 3) := by decide +kernel
theorem dL_law_425 : decode cL_law 425 = .ok (.iconst 0, 1) := by decide +kernel
theorem dL_law_426 : decode cL_law 426 = .ok (.ireturn, 1) := by decide +kernel
theorem dL_law_427 : decode cL_law 427 = .ok (.aload 15, 2) := by decide +kernel
theorem dL_law_429 : decode cL_law 429 = .ok (.aload_n 3, 1) := by decide +kernel
theorem dL_law_430 : decode cL_law 430 = .ok (.iload 16, 2) := by decide +kernel
theorem dL_law_432 : decode cL_law 432 = .ok (.invokevirtual 217, 3) := by decide +kernel
theorem dL_law_435 : decode cL_law 435 = .ok (.iconst 1, 1) := by decide +kernel
theorem dL_law_436 : decode cL_law 436 = .ok (.bastore, 1) := by decide +kernel
theorem dL_law_437 : decode cL_law 437 = .ok (.iinc 16 1, 3) := by decide +kernel
theorem dL_law_440 : decode cL_law 440 = .ok (.goto (-54), 3) := by decide +kernel
theorem dL_law_443 : decode cL_law 443 = .ok (.aload_n 3, 1) := by decide +kernel
theorem dL_law_444 : decode cL_law 444 = .ok (.invokevirtual 220, 3) := by decide +kernel
theorem dL_law_447 : decode cL_law 447 = .ok (.lstore 16, 2) := by decide +kernel
theorem dL_law_449 : decode cL_law 449 = .ok (.iconst 3, 1) := by decide +kernel
theorem dL_law_450 : decode cL_law 450 = .ok (.newarray .int, 2) := by decide +kernel
theorem dL_law_452 : decode cL_law 452 = .ok (.dup, 1) := by decide +kernel
theorem dL_law_453 : decode cL_law 453 = .ok (.iconst 0, 1) := by decide +kernel
theorem dL_law_454 : decode cL_law 454 = .ok (.aload_n 3, 1) := by decide +kernel
theorem dL_law_455 : decode cL_law 455 = .ok (.iconst 1, 1) := by decide +kernel
theorem dL_law_456 : decode cL_law 456 = .ok (.iconst 0, 1) := by decide +kernel
theorem dL_law_457 : decode cL_law 457 = .ok (.invokevirtual 224, 3) := by decide +kernel
theorem dL_law_460 : decode cL_law 460 = .ok (.iastore, 1) := by decide +kernel
theorem dL_law_461 : decode cL_law 461 = .ok (.dup, 1) := by decide +kernel
theorem dL_law_462 : decode cL_law 462 = .ok (.iconst 1, 1) := by decide +kernel
theorem dL_law_463 : decode cL_law 463 = .ok (.aload_n 3, 1) := by decide +kernel
theorem dL_law_464 : decode cL_law 464 = .ok (.iconst 1, 1) := by decide +kernel
theorem dL_law_465 : decode cL_law 465 = .ok (.iconst 1, 1) := by decide +kernel
theorem dL_law_466 : decode cL_law 466 = .ok (.invokevirtual 224, 3) := by decide +kernel
theorem dL_law_469 : decode cL_law 469 = .ok (.iastore, 1) := by decide +kernel
theorem dL_law_470 : decode cL_law 470 = .ok (.dup, 1) := by decide +kernel
theorem dL_law_471 : decode cL_law 471 = .ok (.iconst 2, 1) := by decide +kernel
theorem dL_law_472 : decode cL_law 472 = .ok (.aload_n 3, 1) := by decide +kernel
theorem dL_law_473 : decode cL_law 473 = .ok (.iconst 1, 1) := by decide +kernel
theorem dL_law_474 : decode cL_law 474 = .ok (.iconst 2, 1) := by decide +kernel
theorem dL_law_475 : decode cL_law 475 = .ok (.invokevirtual 224, 3) := by decide +kernel
theorem dL_law_478 : decode cL_law 478 = .ok (.iastore, 1) := by decide +kernel
theorem dL_law_479 : decode cL_law 479 = .ok (.astore 18, 2) := by decide +kernel
theorem dL_law_481 : decode cL_law 481 = .ok (.iload 8, 2) := by decide +kernel
theorem dL_law_483 : decode cL_law 483 = .ok (.iconst 4, 1) := by decide +kernel
theorem dL_law_484 : decode cL_law 484 = .ok (.ishr, 1) := by decide +kernel
theorem dL_law_485 : decode cL_law 485 = .ok (.iload 5, 2) := by decide +kernel
theorem dL_law_487 : decode cL_law 487 = .ok (.invokestatic 124, 3) := by decide +kernel
theorem dL_law_490 : decode cL_law 490 = .ok (.istore 19, 2) := by decide +kernel
theorem dL_law_492 : decode cL_law 492 = .ok (.aload_n 3, 1) := by decide +kernel
theorem dL_law_493 : decode cL_law 493 = .ok (.iload 19, 2) := by decide +kernel
theorem dL_law_495 : decode cL_law 495 = .ok (.invokevirtual 227, 3) := by decide +kernel
theorem dL_law_498 : decode cL_law 498 = .ok (.istore 20, 2) := by decide +kernel
theorem dL_law_500 : decode cL_law 500 = .ok (.aload_n 3, 1) := by decide +kernel
theorem dL_law_501 : decode cL_law 501 = .ok (.iload 9, 2) := by decide +kernel
theorem dL_law_503 : decode cL_law 503 = .ok (.iconst 1, 1) := by decide +kernel
theorem dL_law_504 : decode cL_law 504 = .ok (.invokevirtual 230, 3) := by decide +kernel
theorem dL_law_507 : decode cL_law 507 = .ok (.istore 21, 2) := by decide +kernel
theorem dL_law_509 : decode cL_law 509 = .ok (.aload_n 3, 1) := by decide +kernel
theorem dL_law_510 : decode cL_law 510 = .ok (.iload 9, 2) := by decide +kernel
theorem dL_law_512 : decode cL_law 512 = .ok (.iconst 1, 1) := by decide +kernel
theorem dL_law_513 : decode cL_law 513 = .ok (.iload 8, 2) := by decide +kernel
theorem dL_law_515 : decode cL_law 515 = .ok (.bipush 6, 2) := by decide +kernel
theorem dL_law_517 : decode cL_law 517 = .ok (.ishr, 1) := by decide +kernel
theorem dL_law_518 : decode cL_law 518 = .ok (.bipush 10, 2) := by decide +kernel
theorem dL_law_520 : decode cL_law 520 = .ok (.invokestatic 124, 3) := by decide +kernel
theorem dL_law_523 : decode cL_law 523 = .ok (.iadd, 1) := by decide +kernel
theorem dL_law_524 : decode cL_law 524 = .ok (.invokevirtual 233, 3) := by decide +kernel
theorem dL_law_527 : decode cL_law 527 = .ok (.istore 22, 2) := by decide +kernel
theorem dL_law_529 : decode cL_law 529 = .ok (.aload_n 3, 1) := by decide +kernel
theorem dL_law_530 : decode cL_law 530 = .ok (.invokevirtual 220, 3) := by decide +kernel
theorem dL_law_533 : decode cL_law 533 = .ok (.lload 16, 2) := by decide +kernel
theorem dL_law_535 : decode cL_law 535 = .ok (.lcmp, 1) := by decide +kernel
theorem dL_law_536 : decode cL_law 536 = .ok (.ifCond .ne 54, 3) := by decide +kernel
theorem dL_law_539 : decode cL_law 539 = .ok (.iload 22, 2) := by decide +kernel
theorem dL_law_541 : decode cL_law 541 = .ok (.iconst 1, 1) := by decide +kernel
theorem dL_law_542 : decode cL_law 542 = .ok (.if_icmp .lt 48, 3) := by decide +kernel
theorem dL_law_545 : decode cL_law 545 = .ok (.iload 22, 2) := by decide +kernel
theorem dL_law_547 : decode cL_law 547 = .ok (.iconst 5, 1) := by decide +kernel
theorem dL_law_548 : decode cL_law 548 = .ok (.if_icmp .gt 42, 3) := by decide +kernel
theorem dL_law_551 : decode cL_law 551 = .ok (.iload 20, 2) := by decide +kernel
theorem dL_law_553 : decode cL_law 553 = .ok (.ifCond .ne 7, 3) := by decide +kernel
theorem dL_law_556 : decode cL_law 556 = .ok (.iconst 1, 1) := by decide +kernel
theorem dL_law_557 : decode cL_law 557 = .ok (.goto 4, 3) := by decide +kernel
theorem dL_law_560 : decode cL_law 560 = .ok (.iconst 0, 1) := by decide +kernel
theorem dL_law_561 : decode cL_law 561 = .ok (.aload 11, 2) := by decide +kernel
theorem dL_law_563 : decode cL_law 563 = .ok (.iload 19, 2) := by decide +kernel
theorem dL_law_565 : decode cL_law 565 = .ok (.aaload, 1) := by decide +kernel
theorem dL_law_566 : decode cL_law 566 = .ok (.iconst 0, 1) := by decide +kernel
theorem dL_law_567 : decode cL_law 567 = .ok (.iaload, 1) := by decide +kernel
theorem dL_law_568 : decode cL_law 568 = .ok (.ifCond .ne 7, 3) := by decide +kernel
theorem dL_law_571 : decode cL_law 571 = .ok (.iconst 1, 1) := by decide +kernel
theorem dL_law_572 : decode cL_law 572 = .ok (.goto 4, 3) := by decide +kernel
theorem dL_law_575 : decode cL_law 575 = .ok (.iconst 0, 1) := by decide +kernel
theorem dL_law_576 : decode cL_law 576 = .ok (.if_icmp .ne 14, 3) := by decide +kernel
theorem dL_law_579 : decode cL_law 579 = .ok (.aload_n 3, 1) := by decide +kernel
theorem dL_law_580 : decode cL_law 580 = .ok (.iload 19, 2) := by decide +kernel
theorem dL_law_582 : decode cL_law 582 = .ok (.invokevirtual 236, 3) := by decide +kernel
theorem dL_law_585 : decode cL_law 585 = .ok (.iload 4, 2) := by decide +kernel
theorem dL_law_587 : decode cL_law 587 = .ok (.if_icmp .lt 5, 3) := by decide +kernel
theorem dL_law_590 : decode cL_law 590 = .ok (.iconst 0, 1) := by decide +kernel
theorem dL_law_591 : decode cL_law 591 = .ok (.ireturn, 1) := by decide +kernel
theorem dL_law_592 : decode cL_law 592 = .ok (.aload_n 3, 1) := by decide +kernel
theorem dL_law_593 : decode cL_law 593 = .ok (.iconst 1, 1) := by decide +kernel
theorem dL_law_594 : decode cL_law 594 = .ok (.invokevirtual 239, 3) := by decide +kernel
theorem dL_law_597 : decode cL_law 597 = .ok (.istore 23, 2) := by decide +kernel
theorem dL_law_599 : decode cL_law 599 = .ok (.aload_n 3, 1) := by decide +kernel
theorem dL_law_600 : decode cL_law 600 = .ok (.iconst 0, 1) := by decide +kernel
theorem dL_law_601 : decode cL_law 601 = .ok (.invokevirtual 203, 3) := by decide +kernel
theorem dL_law_604 : decode cL_law 604 = .ok (.iload 13, 2) := by decide +kernel
theorem dL_law_606 : decode cL_law 606 = .ok (.iconst 1, 1) := by decide +kernel
theorem dL_law_607 : decode cL_law 607 = .ok (.iadd, 1) := by decide +kernel
theorem dL_law_608 : decode cL_law 608 = .ok (.if_icmp .ne 58, 3) := by decide +kernel
theorem dL_law_611 : decode cL_law 611 = .ok (.iload 23, 2) := by decide +kernel
theorem dL_law_613 : decode cL_law 613 = .ok (.ifCond .lt 53, 3) := by decide +kernel
theorem dL_law_616 : decode cL_law 616 = .ok (.aload_n 3, 1) := by decide +kernel
theorem dL_law_617 : decode cL_law 617 = .ok (.bipush 6, 2) := by decide +kernel
theorem dL_law_619 : decode cL_law 619 = .ok (.invokevirtual 203, 3) := by decide +kernel
theorem dL_law_622 : decode cL_law 622 = .ok (.iload 14, 2) := by decide +kernel
theorem dL_law_624 : decode cL_law 624 = .ok (.iload 23, 2) := by decide +kernel
theorem dL_law_626 : decode cL_law 626 = .ok (.iadd, 1) := by decide +kernel
theorem dL_law_627 : decode cL_law 627 = .ok (.if_icmp .ne 39, 3) := by decide +kernel
theorem dL_law_630 : decode cL_law 630 = .ok (.aload_n 3, 1) := by decide +kernel
theorem dL_law_631 : decode cL_law 631 = .ok (.bipush 6, 2) := by decide +kernel
theorem dL_law_633 : decode cL_law 633 = .ok (.invokevirtual 203, 3) := by decide +kernel
theorem dL_law_636 : decode cL_law 636 = .ok (.aload 18, 2) := by decide +kernel
theorem dL_law_638 : decode cL_law 638 = .ok (.iconst 0, 1) := by decide +kernel
theorem dL_law_639 : decode cL_law 639 = .ok (.iaload, 1) := by decide +kernel
theorem dL_law_640 : decode cL_law 640 = .ok (.if_icmp .ne 26, 3) := by decide +kernel
theorem dL_law_643 : decode cL_law 643 = .ok (.aload_n 3, 1) := by decide +kernel
theorem dL_law_644 : decode cL_law 644 = .ok (.iconst 5, 1) := by decide +kernel
theorem dL_law_645 : decode cL_law 645 = .ok (.invokevirtual 203, 3) := by decide +kernel
theorem dL_law_648 : decode cL_law 648 = .ok (.aload 18, 2) := by decide +kernel
theorem dL_law_650 : decode cL_law 650 = .ok (.iconst 1, 1) := by decide +kernel
theorem dL_law_651 : decode cL_law 651 = .ok (.iaload, 1) := by decide +kernel
theorem dL_law_652 : decode cL_law 652 = .ok (.if_icmp .ne 14, 3) := by decide +kernel
theorem dL_law_655 : decode cL_law 655 = .ok (.aload_n 3, 1) := by decide +kernel
theorem dL_law_656 : decode cL_law 656 = .ok (.invokevirtual 242, 3) := by decide +kernel
theorem dL_law_659 : decode cL_law 659 = .ok (.aload 18, 2) := by decide +kernel
theorem dL_law_661 : decode cL_law 661 = .ok (.iconst 2, 1) := by decide +kernel
theorem dL_law_662 : decode cL_law 662 = .ok (.iaload, 1) := by decide +kernel
theorem dL_law_663 : decode cL_law 663 = .ok (.if_icmp .eq 5, 3) := by decide +kernel
theorem dL_law_666 : decode cL_law 666 = .ok (.iconst 0, 1) := by decide +kernel
theorem dL_law_667 : decode cL_law 667 = .ok (.ireturn, 1) := by decide +kernel
theorem dL_law_668 : decode cL_law 668 = .ok (.iload 5, 2) := by decide +kernel
theorem dL_law_670 : decode cL_law 670 = .ok (.newarray .int, 2) := by decide +kernel
theorem dL_law_672 : decode cL_law 672 = .ok (.astore 24, 2) := by decide +kernel
theorem dL_law_674 : decode cL_law 674 = .ok (.iconst 0, 1) := by decide +kernel
theorem dL_law_675 : decode cL_law 675 = .ok (.istore 25, 2) := by decide +kernel
theorem dL_law_677 : decode cL_law 677 = .ok (.iconst 0, 1) := by decide +kernel
theorem dL_law_678 : decode cL_law 678 = .ok (.istore 26, 2) := by decide +kernel
theorem dL_law_680 : decode cL_law 680 = .ok (.iload 26, 2) := by decide +kernel
theorem dL_law_682 : decode cL_law 682 = .ok (.iload 4, 2) := by decide +kernel
theorem dL_law_684 : decode cL_law 684 = .ok (.if_icmp .ge 313, 3) := by decide +kernel
theorem dL_law_687 : decode cL_law 687 = .ok (.aload_n 3, 1) := by decide +kernel
theorem dL_law_688 : decode cL_law 688 = .ok (.iload 26, 2) := by decide +kernel
theorem dL_law_690 : decode cL_law 690 = .ok (.bipush 6, 2) := by decide +kernel
theorem dL_law_692 : decode cL_law 692 = .ok (.invokevirtual 206, 3) := by decide +kernel
theorem dL_law_695 : decode cL_law 695 = .ok (.istore 27, 2) := by decide +kernel
theorem dL_law_697 : decode cL_law 697 = .ok (.aload_n 3, 1) := by decide +kernel
theorem dL_law_698 : decode cL_law 698 = .ok (.iload 26, 2) := by decide +kernel
theorem dL_law_700 : decode cL_law 700 = .ok (.bipush 9, 2) := by decide +kernel
theorem dL_law_702 : decode cL_law 702 = .ok (.invokevirtual 206, 3) := by decide +kernel
theorem dL_law_705 : decode cL_law 705 = .ok (.aload 10, 2) := by decide +kernel
theorem dL_law_707 : decode cL_law 707 = .ok (.iload 26, 2) := by decide +kernel
theorem dL_law_709 : decode cL_law 709 = .ok (.aaload, 1) := by decide +kernel
theorem dL_law_710 : decode cL_law 710 = .ok (.bipush 9, 2) := by decide +kernel
theorem dL_law_712 : decode cL_law 712 = .ok (.iaload, 1) := by decide +kernel
theorem dL_law_713 : decode cL_law 713 = .ok (.isub, 1) := by decide +kernel
theorem dL_law_714 : decode cL_law 714 = .ok (.istore 28, 2) := by decide +kernel
theorem dL_law_716 : decode cL_law 716 = .ok (.aload_n 3, 1) := by decide +kernel
theorem dL_law_717 : decode cL_law 717 = .ok (.iload 26, 2) := by decide +kernel
theorem dL_law_719 : decode cL_law 719 = .ok (.bipush 7, 2) := by decide +kernel
theorem dL_law_721 : decode cL_law 721 = .ok (.invokevirtual 206, 3) := by decide +kernel
theorem dL_law_724 : decode cL_law 724 = .ok (.aload 10, 2) := by decide +kernel
theorem dL_law_726 : decode cL_law 726 = .ok (.iload 26, 2) := by decide +kernel
theorem dL_law_728 : decode cL_law 728 = .ok (.aaload, 1) := by decide +kernel
theorem dL_law_729 : decode cL_law 729 = .ok (.bipush 7, 2) := by decide +kernel
theorem dL_law_731 : decode cL_law 731 = .ok (.iaload, 1) := by decide +kernel
theorem dL_law_732 : decode cL_law 732 = .ok (.isub, 1) := by decide +kernel
theorem dL_law_733 : decode cL_law 733 = .ok (.istore 29, 2) := by decide +kernel
theorem dL_law_735 : decode cL_law 735 = .ok (.iload 25, 2) := by decide +kernel
theorem dL_law_737 : decode cL_law 737 = .ok (.aload_n 3, 1) := by decide +kernel
theorem dL_law_738 : decode cL_law 738 = .ok (.iload 26, 2) := by decide +kernel
theorem dL_law_740 : decode cL_law 740 = .ok (.iconst 5, 1) := by decide +kernel
theorem dL_law_741 : decode cL_law 741 = .ok (.invokevirtual 206, 3) := by decide +kernel
theorem dL_law_744 : decode cL_law 744 = .ok (.iadd, 1) := by decide +kernel
theorem dL_law_745 : decode cL_law 745 = .ok (.istore 25, 2) := by decide +kernel
theorem dL_law_747 : decode cL_law 747 = .ok (.iload 27, 2) := by decide +kernel
theorem dL_law_749 : decode cL_law 749 = .ok (.ifCond .lt 12, 3) := by decide +kernel
theorem dL_law_752 : decode cL_law 752 = .ok (.aload 24, 2) := by decide +kernel
theorem dL_law_754 : decode cL_law 754 = .ok (.iload 27, 2) := by decide +kernel
theorem dL_law_756 : decode cL_law 756 = .ok (.dup2, 1) := by decide +kernel
theorem dL_law_757 : decode cL_law 757 = .ok (.iaload, 1) := by decide +kernel
theorem dL_law_758 : decode cL_law 758 = .ok (.iconst 1, 1) := by decide +kernel
theorem dL_law_759 : decode cL_law 759 = .ok (.iadd, 1) := by decide +kernel
theorem dL_law_760 : decode cL_law 760 = .ok (.iastore, 1) := by decide +kernel
theorem dL_law_761 : decode cL_law 761 = .ok (.aload_n 3, 1) := by decide +kernel
theorem dL_law_762 : decode cL_law 762 = .ok (.iload 26, 2) := by decide +kernel
theorem dL_law_764 : decode cL_law 764 = .ok (.iconst 4, 1) := by decide +kernel
theorem dL_law_765 : decode cL_law 765 = .ok (.invokevirtual 206, 3) := by decide +kernel
theorem dL_law_768 : decode cL_law 768 = .ok (.aload 10, 2) := by decide +kernel
theorem dL_law_770 : decode cL_law 770 = .ok (.iload 26, 2) := by decide +kernel
theorem dL_law_772 : decode cL_law 772 = .ok (.aaload, 1) := by decide +kernel
theorem dL_law_773 : decode cL_law 773 = .ok (.iconst 4, 1) := by decide +kernel
theorem dL_law_774 : decode cL_law 774 = .ok (.iaload, 1) := by decide +kernel
theorem dL_law_775 : decode cL_law 775 = .ok (.aload_n 3, 1) := by decide +kernel
theorem dL_law_776 : decode cL_law 776 = .ok (.iload 26, 2) := by decide +kernel
theorem dL_law_778 : decode cL_law 778 = .ok (.iconst 5, 1) := by decide +kernel
theorem dL_law_779 : decode cL_law 779 = .ok (.invokevirtual 206, 3) := by decide +kernel
theorem dL_law_782 : decode cL_law 782 = .ok (.iadd, 1) := by decide +kernel
theorem dL_law_783 : decode cL_law 783 = .ok (.if_icmp .ne 88, 3) := by decide +kernel
theorem dL_law_786 : decode cL_law 786 = .ok (.aload_n 3, 1) := by decide +kernel
theorem dL_law_787 : decode cL_law 787 = .ok (.iload 26, 2) := by decide +kernel
theorem dL_law_789 : decode cL_law 789 = .ok (.iconst 5, 1) := by decide +kernel
theorem dL_law_790 : decode cL_law 790 = .ok (.invokevirtual 206, 3) := by decide +kernel
theorem dL_law_793 : decode cL_law 793 = .ok (.ifCond .lt 78, 3) := by decide +kernel
theorem dL_law_796 : decode cL_law 796 = .ok (.iload 28, 2) := by decide +kernel
theorem dL_law_798 : decode cL_law 798 = .ok (.ifCond .lt 73, 3) := by decide +kernel
theorem dL_law_801 : decode cL_law 801 = .ok (.iload 28, 2) := by decide +kernel
theorem dL_law_803 : decode cL_law 803 = .ok (.aload 10, 2) := by decide +kernel
theorem dL_law_805 : decode cL_law 805 = .ok (.iload 26, 2) := by decide +kernel
theorem dL_law_807 : decode cL_law 807 = .ok (.aaload, 1) := by decide +kernel
theorem dL_law_808 : decode cL_law 808 = .ok (.iconst 3, 1) := by decide +kernel
theorem dL_law_809 : decode cL_law 809 = .ok (.iaload, 1) := by decide +kernel
theorem dL_law_810 : decode cL_law 810 = .ok (.if_icmp .gt 61, 3) := by decide +kernel
theorem dL_law_813 : decode cL_law 813 = .ok (.iload 27, 2) := by decide +kernel
theorem dL_law_815 : decode cL_law 815 = .ok (.ifCond .ge 13, 3) := by decide +kernel
theorem dL_law_818 : decode cL_law 818 = .ok (.iload 28, 2) := by decide +kernel
theorem dL_law_820 : decode cL_law 820 = .ok (.ifCond .gt 51, 3) := by decide +kernel
theorem dL_law_823 : decode cL_law 823 = .ok (.iload 29, 2) := by decide +kernel
theorem dL_law_825 : decode cL_law 825 = .ok (.ifCond .gt 46, 3) := by decide +kernel
theorem dL_law_828 : decode cL_law 828 = .ok (.iload 29, 2) := by decide +kernel
theorem dL_law_830 : decode cL_law 830 = .ok (.ifCond .lt 41, 3) := by decide +kernel
theorem dL_law_833 : decode cL_law 833 = .ok (.iload 29, 2) := by decide +kernel
theorem dL_law_835 : decode cL_law 835 = .ok (.iconst 1, 1) := by decide +kernel
theorem dL_law_836 : decode cL_law 836 = .ok (.if_icmp .gt 35, 3) := by decide +kernel
theorem dL_law_839 : decode cL_law 839 = .ok (.aload_n 3, 1) := by decide +kernel
theorem dL_law_840 : decode cL_law 840 = .ok (.iload 26, 2) := by decide +kernel
theorem dL_law_842 : decode cL_law 842 = .ok (.iconst 0, 1) := by decide +kernel
theorem dL_law_843 : decode cL_law 843 = .ok (.invokevirtual 206, 3) := by decide +kernel
theorem dL_law_846 : decode cL_law 846 = .ok (.aload 10, 2) := by decide +kernel
theorem dL_law_848 : decode cL_law 848 = .ok (.iload 26, 2) := by decide +kernel
theorem dL_law_850 : decode cL_law 850 = .ok (.aaload, 1) := by decide +kernel
theorem dL_law_851 : decode cL_law 851 = .ok (.iconst 0, 1) := by decide +kernel
theorem dL_law_852 : decode cL_law 852 = .ok (.iaload, 1) := by decide +kernel
theorem dL_law_853 : decode cL_law 853 = .ok (.iload 29, 2) := by decide +kernel
theorem dL_law_855 : decode cL_law 855 = .ok (.iadd, 1) := by decide +kernel
theorem dL_law_856 : decode cL_law 856 = .ok (.if_icmp .ne 15, 3) := by decide +kernel
theorem dL_law_859 : decode cL_law 859 = .ok (.aload_n 3, 1) := by decide +kernel
theorem dL_law_860 : decode cL_law 860 = .ok (.iload 26, 2) := by decide +kernel
theorem dL_law_862 : decode cL_law 862 = .ok (.iconst 0, 1) := by decide +kernel
theorem dL_law_863 : decode cL_law 863 = .ok (.invokevirtual 206, 3) := by decide +kernel
theorem dL_law_866 : decode cL_law 866 = .ok (.bipush 6, 2) := by decide +kernel
theorem dL_law_868 : decode cL_law 868 = .ok (.if_icmp .le 5, 3) := by decide +kernel
theorem dL_law_871 : decode cL_law 871 = .ok (.iconst 0, 1) := by decide +kernel
theorem dL_law_872 : decode cL_law 872 = .ok (.ireturn, 1) := by decide +kernel
theorem dL_law_873 : decode cL_law 873 = .ok (.iconst 4, 1) := by decide +kernel
theorem dL_law_874 : decode cL_law 874 = .ok (.newarray .int, 2) := by decide +kernel
theorem dL_law_876 : decode cL_law 876 = .ok (.dup, 1) := by decide +kernel
theorem dL_law_877 : decode cL_law 877 = .ok (.iconst 0, 1) := by decide +kernel
theorem dL_law_878 : decode cL_law 878 = .ok (.iconst 1, 1) := by decide +kernel
theorem dL_law_879 : decode cL_law 879 = .ok (.iastore, 1) := by decide +kernel
theorem dL_law_880 : decode cL_law 880 = .ok (.dup, 1) := by decide +kernel
theorem dL_law_881 : decode cL_law 881 = .ok (.iconst 1, 1) := by decide +kernel
theorem dL_law_882 : decode cL_law 882 = .ok (.iconst 2, 1) := by decide +kernel
theorem dL_law_883 : decode cL_law 883 = .ok (.iastore, 1) := by decide +kernel
theorem dL_law_884 : decode cL_law 884 = .ok (.dup, 1) := by decide +kernel
theorem dL_law_885 : decode cL_law 885 = .ok (.iconst 2, 1) := by decide +kernel
theorem dL_law_886 : decode cL_law 886 = .ok (.iconst 3, 1) := by decide +kernel
theorem dL_law_887 : decode cL_law 887 = .ok (.iastore, 1) := by decide +kernel
theorem dL_law_888 : decode cL_law 888 = .ok (.dup, 1) := by decide +kernel
theorem dL_law_889 : decode cL_law 889 = .ok (.iconst 3, 1) := by decide +kernel
theorem dL_law_890 : decode cL_law 890 = .ok (.bipush 8, 2) := by decide +kernel
theorem dL_law_892 : decode cL_law 892 = .ok (.iastore, 1) := by decide +kernel
theorem dL_law_893 : decode cL_law 893 = .ok (.astore 30, 2) := by decide +kernel
theorem dL_law_895 : decode cL_law 895 = .ok (.aload 30, 2) := by decide +kernel
theorem dL_law_897 : decode cL_law 897 = .ok (.arraylength, 1) := by decide +kernel
theorem dL_law_898 : decode cL_law 898 = .ok (.istore 31, 2) := by decide +kernel
theorem dL_law_900 : decode cL_law 900 = .ok (.iconst 0, 1) := by decide +kernel
theorem dL_law_901 : decode cL_law 901 = .ok (.istore 32, 2) := by decide +kernel
theorem dL_law_903 : decode cL_law 903 = .ok (.iload 32, 2) := by decide +kernel
theorem dL_law_905 : decode cL_law 905 = .ok (.iload 31, 2) := by decide +kernel
theorem dL_law_907 : decode cL_law 907 = .ok (.if_icmp .ge 37, 3) := by decide +kernel
theorem dL_law_910 : decode cL_law 910 = .ok (.aload 30, 2) := by decide +kernel
theorem dL_law_912 : decode cL_law 912 = .ok (.iload 32, 2) := by decide +kernel
theorem dL_law_914 : decode cL_law 914 = .ok (.iaload, 1) := by decide +kernel
theorem dL_law_915 : decode cL_law 915 = .ok (.istore 33, 2) := by decide +kernel
theorem dL_law_917 : decode cL_law 917 = .ok (.aload_n 3, 1) := by decide +kernel
theorem dL_law_918 : decode cL_law 918 = .ok (.iload 26, 2) := by decide +kernel
theorem dL_law_920 : decode cL_law 920 = .ok (.iload 33, 2) := by decide +kernel
theorem dL_law_922 : decode cL_law 922 = .ok (.invokevirtual 206, 3) := by decide +kernel
theorem dL_law_925 : decode cL_law 925 = .ok (.aload 10, 2) := by decide +kernel
theorem dL_law_927 : decode cL_law 927 = .ok (.iload 26, 2) := by decide +kernel
theorem dL_law_929 : decode cL_law 929 = .ok (.aaload, 1) := by decide +kernel
theorem dL_law_930 : decode cL_law 930 = .ok (.iload 33, 2) := by decide +kernel
theorem dL_law_932 : decode cL_law 932 = .ok (.iaload, 1) := by decide +kernel
theorem dL_law_933 : decode cL_law 933 = .ok (.if_icmp .eq 5, 3) := by decide +kernel
theorem dL_law_936 : decode cL_law 936 = .ok (.iconst 0, 1) := by decide +kernel
theorem dL_law_937 : decode cL_law 937 = .ok (.ireturn, 1) := by decide +kernel
theorem dL_law_938 : decode cL_law 938 = .ok (.iinc 32 1, 3) := by decide +kernel
theorem dL_law_941 : decode cL_law 941 = .ok (.goto (-38), 3) := by decide +kernel
theorem dL_law_944 : decode cL_law 944 = .ok (.iconst 0, 1) := by decide +kernel
theorem dL_law_945 : decode cL_law 945 = .ok (.istore 30, 2) := by decide +kernel
theorem dL_law_947 : decode cL_law 947 = .ok (.iconst 0, 1) := by decide +kernel
theorem dL_law_948 : decode cL_law 948 = .ok (.istore 31, 2) := by decide +kernel
theorem dL_law_950 : decode cL_law 950 = .ok (.iload 31, 2) := by decide +kernel
theorem dL_law_952 : decode cL_law 952 = .ok (.iload 5, 2) := by decide +kernel
theorem dL_law_954 : decode cL_law 954 = .ok (.if_icmp .ge 22, 3) := by decide +kernel
theorem dL_law_957 : decode cL_law 957 = .ok (.iload 30, 2) := by decide +kernel
theorem dL_law_959 : decode cL_law 959 = .ok (.aload_n 3, 1) := by decide +kernel
theorem dL_law_960 : decode cL_law 960 = .ok (.iload 31, 2) := by decide +kernel
theorem dL_law_962 : decode cL_law 962 = .ok (.iload 26, 2) := by decide +kernel
theorem dL_law_964 : decode cL_law 964 = .ok (.invokevirtual 245, 3) := by decide +kernel
theorem dL_law_967 : decode cL_law 967 = .ok (.iadd, 1) := by decide +kernel
theorem dL_law_968 : decode cL_law 968 = .ok (.istore 30, 2) := by decide +kernel
theorem dL_law_970 : decode cL_law 970 = .ok (.iinc 31 1, 3) := by decide +kernel
theorem dL_law_973 : decode cL_law 973 = .ok (.goto (-23), 3) := by decide +kernel
theorem dL_law_976 : decode cL_law 976 = .ok (.iload 30, 2) := by decide +kernel
theorem dL_law_978 : decode cL_law 978 = .ok (.aload_n 3, 1) := by decide +kernel
theorem dL_law_979 : decode cL_law 979 = .ok (.iload 26, 2) := by decide +kernel
theorem dL_law_981 : decode cL_law 981 = .ok (.bipush 9, 2) := by decide +kernel
theorem dL_law_983 : decode cL_law 983 = .ok (.invokevirtual 206, 3) := by decide +kernel
theorem dL_law_986 : decode cL_law 986 = .ok (.if_icmp .eq 5, 3) := by decide +kernel
theorem dL_law_989 : decode cL_law 989 = .ok (.iconst 0, 1) := by decide +kernel
theorem dL_law_990 : decode cL_law 990 = .ok (.ireturn, 1) := by decide +kernel
theorem dL_law_991 : decode cL_law 991 = .ok (.iinc 26 1, 3) := by decide +kernel
theorem dL_law_994 : decode cL_law 994 = .ok (.goto (-314), 3) := by decide +kernel
theorem dL_law_997 : decode cL_law 997 = .ok (.iload 25, 2) := by decide +kernel
theorem dL_law_999 : decode cL_law 999 = .ok (.iload 23, 2) := by decide +kernel
theorem dL_law_1001 : decode cL_law 1001 = .ok (.if_icmp .eq 5, 3) := by decide +kernel
theorem dL_law_1004 : decode cL_law 1004 = .ok (.iconst 0, 1) := by decide +kernel
theorem dL_law_1005 : decode cL_law 1005 = .ok (.ireturn, 1) := by decide +kernel
theorem dL_law_1006 : decode cL_law 1006 = .ok (.iconst 0, 1) := by decide +kernel
theorem dL_law_1007 : decode cL_law 1007 = .ok (.istore 26, 2) := by decide +kernel
theorem dL_law_1009 : decode cL_law 1009 = .ok (.iload 26, 2) := by decide +kernel
theorem dL_law_1011 : decode cL_law 1011 = .ok (.iload 5, 2) := by decide +kernel
theorem dL_law_1013 : decode cL_law 1013 = .ok (.if_icmp .ge 259, 3) := by decide +kernel
theorem dL_law_1016 : decode cL_law 1016 = .ok (.aload_n 3, 1) := by decide +kernel
theorem dL_law_1017 : decode cL_law 1017 = .ok (.iload 26, 2) := by decide +kernel
theorem dL_law_1019 : decode cL_law 1019 = .ok (.bipush 8, 2) := by decide +kernel
theorem dL_law_1021 : decode cL_law 1021 = .ok (.invokevirtual 213, 3) := by decide +kernel
theorem dL_law_1024 : decode cL_law 1024 = .ok (.aload 11, 2) := by decide +kernel
theorem dL_law_1026 : decode cL_law 1026 = .ok (.iload 26, 2) := by decide +kernel
theorem dL_law_1028 : decode cL_law 1028 = .ok (.aaload, 1) := by decide +kernel
theorem dL_law_1029 : decode cL_law 1029 = .ok (.bipush 8, 2) := by decide +kernel
theorem dL_law_1031 : decode cL_law 1031 = .ok (.iaload, 1) := by decide +kernel
theorem dL_law_1032 : decode cL_law 1032 = .ok (.isub, 1) := by decide +kernel
theorem dL_law_1033 : decode cL_law 1033 = .ok (.istore 27, 2) := by decide +kernel
theorem dL_law_1035 : decode cL_law 1035 = .ok (.aload 11, 2) := by decide +kernel
theorem dL_law_1037 : decode cL_law 1037 = .ok (.iload 26, 2) := by decide +kernel
theorem dL_law_1039 : decode cL_law 1039 = .ok (.aaload, 1) := by decide +kernel
theorem dL_law_1040 : decode cL_law 1040 = .ok (.iconst 0, 1) := by decide +kernel
theorem dL_law_1041 : decode cL_law 1041 = .ok (.iaload, 1) := by decide +kernel
theorem dL_law_1042 : decode cL_law 1042 = .ok (.iload 27, 2) := by decide +kernel
theorem dL_law_1044 : decode cL_law 1044 = .ok (.isub, 1) := by decide +kernel
theorem dL_law_1045 : decode cL_law 1045 = .ok (.istore 28, 2) := by decide +kernel
theorem dL_law_1047 : decode cL_law 1047 = .ok (.aload_n 3, 1) := by decide +kernel
theorem dL_law_1048 : decode cL_law 1048 = .ok (.iload 26, 2) := by decide +kernel
theorem dL_law_1050 : decode cL_law 1050 = .ok (.bipush 7, 2) := by decide +kernel
theorem dL_law_1052 : decode cL_law 1052 = .ok (.invokevirtual 213, 3) := by decide +kernel
theorem dL_law_1055 : decode cL_law 1055 = .ok (.aload 24, 2) := by decide +kernel
theorem dL_law_1057 : decode cL_law 1057 = .ok (.iload 26, 2) := by decide +kernel
theorem dL_law_1059 : decode cL_law 1059 = .ok (.iaload, 1) := by decide +kernel
theorem dL_law_1060 : decode cL_law 1060 = .ok (.if_icmp .ne 96, 3) := by decide +kernel
theorem dL_law_1063 : decode cL_law 1063 = .ok (.aload 24, 2) := by decide +kernel
theorem dL_law_1065 : decode cL_law 1065 = .ok (.iload 26, 2) := by decide +kernel
theorem dL_law_1067 : decode cL_law 1067 = .ok (.iaload, 1) := by decide +kernel
theorem dL_law_1068 : decode cL_law 1068 = .ok (.aload 11, 2) := by decide +kernel
theorem dL_law_1070 : decode cL_law 1070 = .ok (.iload 26, 2) := by decide +kernel
theorem dL_law_1072 : decode cL_law 1072 = .ok (.aaload, 1) := by decide +kernel
theorem dL_law_1073 : decode cL_law 1073 = .ok (.bipush 6, 2) := by decide +kernel
theorem dL_law_1075 : decode cL_law 1075 = .ok (.iaload, 1) := by decide +kernel
theorem dL_law_1076 : decode cL_law 1076 = .ok (.if_icmp .gt 80, 3) := by decide +kernel
theorem dL_law_1079 : decode cL_law 1079 = .ok (.aload_n 3, 1) := by decide +kernel
theorem dL_law_1080 : decode cL_law 1080 = .ok (.iload 26, 2) := by decide +kernel
theorem dL_law_1082 : decode cL_law 1082 = .ok (.bipush 6, 2) := by decide +kernel
theorem dL_law_1084 : decode cL_law 1084 = .ok (.invokevirtual 213, 3) := by decide +kernel
theorem dL_law_1087 : decode cL_law 1087 = .ok (.aload 11, 2) := by decide +kernel
theorem dL_law_1089 : decode cL_law 1089 = .ok (.iload 26, 2) := by decide +kernel
theorem dL_law_1091 : decode cL_law 1091 = .ok (.aaload, 1) := by decide +kernel
theorem dL_law_1092 : decode cL_law 1092 = .ok (.bipush 6, 2) := by decide +kernel
theorem dL_law_1094 : decode cL_law 1094 = .ok (.iaload, 1) := by decide +kernel
theorem dL_law_1095 : decode cL_law 1095 = .ok (.if_icmp .ne 61, 3) := by decide +kernel
theorem dL_law_1098 : decode cL_law 1098 = .ok (.iload 27, 2) := by decide +kernel
theorem dL_law_1100 : decode cL_law 1100 = .ok (.ifCond .lt 56, 3) := by decide +kernel
theorem dL_law_1103 : decode cL_law 1103 = .ok (.iload 28, 2) := by decide +kernel
theorem dL_law_1105 : decode cL_law 1105 = .ok (.ifCond .lt 51, 3) := by decide +kernel
theorem dL_law_1108 : decode cL_law 1108 = .ok (.aload_n 3, 1) := by decide +kernel
theorem dL_law_1109 : decode cL_law 1109 = .ok (.iload 26, 2) := by decide +kernel
theorem dL_law_1111 : decode cL_law 1111 = .ok (.iconst 0, 1) := by decide +kernel
theorem dL_law_1112 : decode cL_law 1112 = .ok (.invokevirtual 213, 3) := by decide +kernel
theorem dL_law_1115 : decode cL_law 1115 = .ok (.iload 28, 2) := by decide +kernel
theorem dL_law_1117 : decode cL_law 1117 = .ok (.iload 28, 2) := by decide +kernel
theorem dL_law_1119 : decode cL_law 1119 = .ok (.bipush 6, 2) := by decide +kernel
theorem dL_law_1121 : decode cL_law 1121 = .ok (.idiv, 1) := by decide +kernel
theorem dL_law_1122 : decode cL_law 1122 = .ok (.iadd, 1) := by decide +kernel
theorem dL_law_1123 : decode cL_law 1123 = .ok (.if_icmp .gt 33, 3) := by decide +kernel
theorem dL_law_1126 : decode cL_law 1126 = .ok (.aload_n 3, 1) := by decide +kernel
theorem dL_law_1127 : decode cL_law 1127 = .ok (.iload 26, 2) := by decide +kernel
theorem dL_law_1129 : decode cL_law 1129 = .ok (.iconst 0, 1) := by decide +kernel
theorem dL_law_1130 : decode cL_law 1130 = .ok (.invokevirtual 213, 3) := by decide +kernel
theorem dL_law_1133 : decode cL_law 1133 = .ok (.iload 28, 2) := by decide +kernel
theorem dL_law_1135 : decode cL_law 1135 = .ok (.bipush 99, 2) := by decide +kernel
theorem dL_law_1137 : decode cL_law 1137 = .ok (.isub, 1) := by decide +kernel
theorem dL_law_1138 : decode cL_law 1138 = .ok (.if_icmp .lt 18, 3) := by decide +kernel
theorem dL_law_1141 : decode cL_law 1141 = .ok (.iload 28, 2) := by decide +kernel
theorem dL_law_1143 : decode cL_law 1143 = .ok (.ifCond .ne 15, 3) := by decide +kernel
theorem dL_law_1146 : decode cL_law 1146 = .ok (.aload_n 3, 1) := by decide +kernel
theorem dL_law_1147 : decode cL_law 1147 = .ok (.iload 26, 2) := by decide +kernel
theorem dL_law_1149 : decode cL_law 1149 = .ok (.iconst 0, 1) := by decide +kernel
theorem dL_law_1150 : decode cL_law 1150 = .ok (.invokevirtual 213, 3) := by decide +kernel
theorem dL_law_1153 : decode cL_law 1153 = .ok (.ifCond .eq 5, 3) := by decide +kernel
theorem dL_law_1156 : decode cL_law 1156 = .ok (.iconst 0, 1) := by decide +kernel
theorem dL_law_1157 : decode cL_law 1157 = .ok (.ireturn, 1) := by decide +kernel
theorem dL_law_1158 : decode cL_law 1158 = .ok (.iconst 0, 1) := by decide +kernel
theorem dL_law_1159 : decode cL_law 1159 = .ok (.istore 29, 2) := by decide +kernel
theorem dL_law_1161 : decode cL_law 1161 = .ok (.iconst 1, 1) := by decide +kernel
theorem dL_law_1162 : decode cL_law 1162 = .ok (.istore 30, 2) := by decide +kernel
theorem dL_law_1164 : decode cL_law 1164 = .ok (.iload 30, 2) := by decide +kernel
theorem dL_law_1166 : decode cL_law 1166 = .ok (.bipush 6, 2) := by decide +kernel
theorem dL_law_1168 : decode cL_law 1168 = .ok (.if_icmp .ge 48, 3) := by decide +kernel
theorem dL_law_1171 : decode cL_law 1171 = .ok (.iload 29, 2) := by decide +kernel
theorem dL_law_1173 : decode cL_law 1173 = .ok (.aload_n 3, 1) := by decide +kernel
theorem dL_law_1174 : decode cL_law 1174 = .ok (.iload 26, 2) := by decide +kernel
theorem dL_law_1176 : decode cL_law 1176 = .ok (.iload 30, 2) := by decide +kernel
theorem dL_law_1178 : decode cL_law 1178 = .ok (.invokevirtual 213, 3) := by decide +kernel
theorem dL_law_1181 : decode cL_law 1181 = .ok (.iadd, 1) := by decide +kernel
theorem dL_law_1182 : decode cL_law 1182 = .ok (.istore 29, 2) := by decide +kernel
theorem dL_law_1184 : decode cL_law 1184 = .ok (.aload_n 3, 1) := by decide +kernel
theorem dL_law_1185 : decode cL_law 1185 = .ok (.iload 26, 2) := by decide +kernel
theorem dL_law_1187 : decode cL_law 1187 = .ok (.iload 30, 2) := by decide +kernel
theorem dL_law_1189 : decode cL_law 1189 = .ok (.invokevirtual 213, 3) := by decide +kernel
theorem dL_law_1192 : decode cL_law 1192 = .ok (.ifCond .lt 16, 3) := by decide +kernel
theorem dL_law_1195 : decode cL_law 1195 = .ok (.aload_n 3, 1) := by decide +kernel
theorem dL_law_1196 : decode cL_law 1196 = .ok (.iload 26, 2) := by decide +kernel
theorem dL_law_1198 : decode cL_law 1198 = .ok (.iload 30, 2) := by decide +kernel
theorem dL_law_1200 : decode cL_law 1200 = .ok (.invokevirtual 213, 3) := by decide +kernel
theorem dL_law_1203 : decode cL_law 1203 = .ok (.bipush 99, 2) := by decide +kernel
theorem dL_law_1205 : decode cL_law 1205 = .ok (.if_icmp .le 5, 3) := by decide +kernel
theorem dL_law_1208 : decode cL_law 1208 = .ok (.iconst 0, 1) := by decide +kernel
theorem dL_law_1209 : decode cL_law 1209 = .ok (.ireturn, 1) := by decide +kernel
theorem dL_law_1210 : decode cL_law 1210 = .ok (.iinc 30 1, 3) := by decide +kernel
theorem dL_law_1213 : decode cL_law 1213 = .ok (.goto (-49), 3) := by decide +kernel
theorem dL_law_1216 : decode cL_law 1216 = .ok (.iload 29, 2) := by decide +kernel
theorem dL_law_1218 : decode cL_law 1218 = .ok (.aload_n 3, 1) := by decide +kernel
theorem dL_law_1219 : decode cL_law 1219 = .ok (.iload 26, 2) := by decide +kernel
theorem dL_law_1221 : decode cL_law 1221 = .ok (.iconst 0, 1) := by decide +kernel
theorem dL_law_1222 : decode cL_law 1222 = .ok (.invokevirtual 213, 3) := by decide +kernel
theorem dL_law_1225 : decode cL_law 1225 = .ok (.if_icmp .ne 39, 3) := by decide +kernel
theorem dL_law_1228 : decode cL_law 1228 = .ok (.iload 26, 2) := by decide +kernel
theorem dL_law_1230 : decode cL_law 1230 = .ok (.iload 19, 2) := by decide +kernel
theorem dL_law_1232 : decode cL_law 1232 = .ok (.if_icmp .ne 34, 3) := by decide +kernel
theorem dL_law_1235 : decode cL_law 1235 = .ok (.iload 20, 2) := by decide +kernel
theorem dL_law_1237 : decode cL_law 1237 = .ok (.ifCond .le 29, 3) := by decide +kernel
theorem dL_law_1240 : decode cL_law 1240 = .ok (.iload 20, 2) := by decide +kernel
theorem dL_law_1242 : decode cL_law 1242 = .ok (.iconst 1, 1) := by decide +kernel
theorem dL_law_1243 : decode cL_law 1243 = .ok (.if_icmp .ne 7, 3) := by decide +kernel
theorem dL_law_1246 : decode cL_law 1246 = .ok (.iconst 1, 1) := by decide +kernel
theorem dL_law_1247 : decode cL_law 1247 = .ok (.goto 4, 3) := by decide +kernel
theorem dL_law_1250 : decode cL_law 1250 = .ok (.iconst 0, 1) := by decide +kernel
theorem dL_law_1251 : decode cL_law 1251 = .ok (.iload 29, 2) := by decide +kernel
theorem dL_law_1253 : decode cL_law 1253 = .ok (.ifCond .ne 7, 3) := by decide +kernel
theorem dL_law_1256 : decode cL_law 1256 = .ok (.iconst 1, 1) := by decide +kernel
theorem dL_law_1257 : decode cL_law 1257 = .ok (.goto 4, 3) := by decide +kernel
theorem dL_law_1260 : decode cL_law 1260 = .ok (.iconst 0, 1) := by decide +kernel
theorem dL_law_1261 : decode cL_law 1261 = .ok (.if_icmp .eq 5, 3) := by decide +kernel
theorem dL_law_1264 : decode cL_law 1264 = .ok (.iconst 0, 1) := by decide +kernel
theorem dL_law_1265 : decode cL_law 1265 = .ok (.ireturn, 1) := by decide +kernel
theorem dL_law_1266 : decode cL_law 1266 = .ok (.iinc 26 1, 3) := by decide +kernel
theorem dL_law_1269 : decode cL_law 1269 = .ok (.goto (-260), 3) := by decide +kernel
theorem dL_law_1272 : decode cL_law 1272 = .ok (.iconst 0, 1) := by decide +kernel
theorem dL_law_1273 : decode cL_law 1273 = .ok (.istore 26, 2) := by decide +kernel
theorem dL_law_1275 : decode cL_law 1275 = .ok (.iconst 0, 1) := by decide +kernel
theorem dL_law_1276 : decode cL_law 1276 = .ok (.istore 27, 2) := by decide +kernel
theorem dL_law_1278 : decode cL_law 1278 = .ok (.iload 27, 2) := by decide +kernel
theorem dL_law_1280 : decode cL_law 1280 = .ok (.iload 6, 2) := by decide +kernel
theorem dL_law_1282 : decode cL_law 1282 = .ok (.if_icmp .ge 221, 3) := by decide +kernel
theorem dL_law_1285 : decode cL_law 1285 = .ok (.iconst 0, 1) := by decide +kernel
theorem dL_law_1286 : decode cL_law 1286 = .ok (.istore 28, 2) := by decide +kernel
theorem dL_law_1288 : decode cL_law 1288 = .ok (.aload_n 2, 1) := by decide +kernel
theorem dL_law_1289 : decode cL_law 1289 = .ok (.getfield 181, 3) := by decide +kernel
theorem dL_law_1292 : decode cL_law 1292 = .ok (.iload 27, 2) := by decide +kernel
theorem dL_law_1294 : decode cL_law 1294 = .ok (.aaload, 1) := by decide +kernel
theorem dL_law_1295 : decode cL_law 1295 = .ok (.astore 29, 2) := by decide +kernel
theorem dL_law_1297 : decode cL_law 1297 = .ok (.aload 29, 2) := by decide +kernel
theorem dL_law_1299 : decode cL_law 1299 = .ok (.arraylength, 1) := by decide +kernel
theorem dL_law_1300 : decode cL_law 1300 = .ok (.istore 30, 2) := by decide +kernel
theorem dL_law_1302 : decode cL_law 1302 = .ok (.iconst 0, 1) := by decide +kernel
theorem dL_law_1303 : decode cL_law 1303 = .ok (.istore 31, 2) := by decide +kernel
theorem dL_law_1305 : decode cL_law 1305 = .ok (.iload 31, 2) := by decide +kernel
theorem dL_law_1307 : decode cL_law 1307 = .ok (.iload 30, 2) := by decide +kernel
theorem dL_law_1309 : decode cL_law 1309 = .ok (.if_icmp .ge 38, 3) := by decide +kernel
theorem dL_law_1312 : decode cL_law 1312 = .ok (.aload 29, 2) := by decide +kernel
theorem dL_law_1314 : decode cL_law 1314 = .ok (.iload 31, 2) := by decide +kernel
theorem dL_law_1316 : decode cL_law 1316 = .ok (.iaload, 1) := by decide +kernel
theorem dL_law_1317 : decode cL_law 1317 = .ok (.istore 32, 2) := by decide +kernel
theorem dL_law_1319 : decode cL_law 1319 = .ok (.iload 28, 2) := by decide +kernel
theorem dL_law_1321 : decode cL_law 1321 = .ok (.aload 10, 2) := by decide +kernel
theorem dL_law_1323 : decode cL_law 1323 = .ok (.iload 32, 2) := by decide +kernel
theorem dL_law_1325 : decode cL_law 1325 = .ok (.aaload, 1) := by decide +kernel
theorem dL_law_1326 : decode cL_law 1326 = .ok (.bipush 8, 2) := by decide +kernel
theorem dL_law_1328 : decode cL_law 1328 = .ok (.iaload, 1) := by decide +kernel
theorem dL_law_1329 : decode cL_law 1329 = .ok (.iconst 1, 1) := by decide +kernel
theorem dL_law_1330 : decode cL_law 1330 = .ok (.if_icmp .ne 7, 3) := by decide +kernel
theorem dL_law_1333 : decode cL_law 1333 = .ok (.iconst 1, 1) := by decide +kernel
theorem dL_law_1334 : decode cL_law 1334 = .ok (.goto 4, 3) := by decide +kernel
theorem dL_law_1337 : decode cL_law 1337 = .ok (.iconst 0, 1) := by decide +kernel
theorem dL_law_1338 : decode cL_law 1338 = .ok (.ior, 1) := by decide +kernel
theorem dL_law_1339 : decode cL_law 1339 = .ok (.istore 28, 2) := by decide +kernel
theorem dL_law_1341 : decode cL_law 1341 = .ok (.iinc 31 1, 3) := by decide +kernel
theorem dL_law_1344 : decode cL_law 1344 = .ok (.goto (-39), 3) := by decide +kernel
theorem dL_law_1347 : decode cL_law 1347 = .ok (.aload_n 3, 1) := by decide +kernel
theorem dL_law_1348 : decode cL_law 1348 = .ok (.iload 27, 2) := by decide +kernel
theorem dL_law_1350 : decode cL_law 1350 = .ok (.iconst 5, 1) := by decide +kernel
theorem dL_law_1351 : decode cL_law 1351 = .ok (.invokevirtual 215, 3) := by decide +kernel
theorem dL_law_1354 : decode cL_law 1354 = .ok (.aload 12, 2) := by decide +kernel
theorem dL_law_1356 : decode cL_law 1356 = .ok (.iload 27, 2) := by decide +kernel
theorem dL_law_1358 : decode cL_law 1358 = .ok (.aaload, 1) := by decide +kernel
theorem dL_law_1359 : decode cL_law 1359 = .ok (.iconst 5, 1) := by decide +kernel
theorem dL_law_1360 : decode cL_law 1360 = .ok (.iaload, 1) := by decide +kernel
theorem dL_law_1361 : decode cL_law 1361 = .ok (.isub, 1) := by decide +kernel
theorem dL_law_1362 : decode cL_law 1362 = .ok (.istore 29, 2) := by decide +kernel
theorem dL_law_1364 : decode cL_law 1364 = .ok (.iload 26, 2) := by decide +kernel
theorem dL_law_1366 : decode cL_law 1366 = .ok (.iload 29, 2) := by decide +kernel
theorem dL_law_1368 : decode cL_law 1368 = .ok (.iadd, 1) := by decide +kernel
theorem dL_law_1369 : decode cL_law 1369 = .ok (.istore 26, 2) := by decide +kernel
theorem dL_law_1371 : decode cL_law 1371 = .ok (.iload 29, 2) := by decide +kernel
theorem dL_law_1373 : decode cL_law 1373 = .ok (.ifCond .lt 86, 3) := by decide +kernel
theorem dL_law_1376 : decode cL_law 1376 = .ok (.iload 29, 2) := by decide +kernel
theorem dL_law_1378 : decode cL_law 1378 = .ok (.ifCond .le 8, 3) := by decide +kernel
theorem dL_law_1381 : decode cL_law 1381 = .ok (.iload 28, 2) := by decide +kernel
theorem dL_law_1383 : decode cL_law 1383 = .ok (.ifCond .eq 76, 3) := by decide +kernel
theorem dL_law_1386 : decode cL_law 1386 = .ok (.aload_n 3, 1) := by decide +kernel
theorem dL_law_1387 : decode cL_law 1387 = .ok (.iload 27, 2) := by decide +kernel
theorem dL_law_1389 : decode cL_law 1389 = .ok (.bipush 6, 2) := by decide +kernel
theorem dL_law_1391 : decode cL_law 1391 = .ok (.invokevirtual 215, 3) := by decide +kernel
theorem dL_law_1394 : decode cL_law 1394 = .ok (.aload 12, 2) := by decide +kernel
theorem dL_law_1396 : decode cL_law 1396 = .ok (.iload 27, 2) := by decide +kernel
theorem dL_law_1398 : decode cL_law 1398 = .ok (.aaload, 1) := by decide +kernel
theorem dL_law_1399 : decode cL_law 1399 = .ok (.bipush 6, 2) := by decide +kernel
theorem dL_law_1401 : decode cL_law 1401 = .ok (.iaload, 1) := by decide +kernel
theorem dL_law_1402 : decode cL_law 1402 = .ok (.iload 29, 2) := by decide +kernel
theorem dL_law_1404 : decode cL_law 1404 = .ok (.ifCond .le 7, 3) := by decide +kernel
theorem dL_law_1407 : decode cL_law 1407 = .ok (.iconst 1, 1) := by decide +kernel
theorem dL_law_1408 : decode cL_law 1408 = .ok (.goto 4, 3) := by decide +kernel
theorem dL_law_1411 : decode cL_law 1411 = .ok (.iconst 0, 1) := by decide +kernel
theorem dL_law_1412 : decode cL_law 1412 = .ok (.iadd, 1) := by decide +kernel
theorem dL_law_1413 : decode cL_law 1413 = .ok (.if_icmp .ne 46, 3) := by decide +kernel
theorem dL_law_1416 : decode cL_law 1416 = .ok (.aload_n 3, 1) := by decide +kernel
theorem dL_law_1417 : decode cL_law 1417 = .ok (.iload 27, 2) := by decide +kernel
theorem dL_law_1419 : decode cL_law 1419 = .ok (.iconst 4, 1) := by decide +kernel
theorem dL_law_1420 : decode cL_law 1420 = .ok (.invokevirtual 215, 3) := by decide +kernel
theorem dL_law_1423 : decode cL_law 1423 = .ok (.aload 12, 2) := by decide +kernel
theorem dL_law_1425 : decode cL_law 1425 = .ok (.iload 27, 2) := by decide +kernel
theorem dL_law_1427 : decode cL_law 1427 = .ok (.aaload, 1) := by decide +kernel
theorem dL_law_1428 : decode cL_law 1428 = .ok (.iconst 4, 1) := by decide +kernel
theorem dL_law_1429 : decode cL_law 1429 = .ok (.iaload, 1) := by decide +kernel
theorem dL_law_1430 : decode cL_law 1430 = .ok (.if_icmp .lt 29, 3) := by decide +kernel
theorem dL_law_1433 : decode cL_law 1433 = .ok (.aload 12, 2) := by decide +kernel
theorem dL_law_1435 : decode cL_law 1435 = .ok (.iload 27, 2) := by decide +kernel
theorem dL_law_1437 : decode cL_law 1437 = .ok (.aaload, 1) := by decide +kernel
theorem dL_law_1438 : decode cL_law 1438 = .ok (.iconst 0, 1) := by decide +kernel
theorem dL_law_1439 : decode cL_law 1439 = .ok (.iaload, 1) := by decide +kernel
theorem dL_law_1440 : decode cL_law 1440 = .ok (.iconst 1, 1) := by decide +kernel
theorem dL_law_1441 : decode cL_law 1441 = .ok (.if_icmp .ne 20, 3) := by decide +kernel
theorem dL_law_1444 : decode cL_law 1444 = .ok (.aload_n 3, 1) := by decide +kernel
theorem dL_law_1445 : decode cL_law 1445 = .ok (.iload 27, 2) := by decide +kernel
theorem dL_law_1447 : decode cL_law 1447 = .ok (.iconst 4, 1) := by decide +kernel
theorem dL_law_1448 : decode cL_law 1448 = .ok (.invokevirtual 215, 3) := by decide +kernel
theorem dL_law_1451 : decode cL_law 1451 = .ok (.ifCond .ne 8, 3) := by decide +kernel
theorem dL_law_1454 : decode cL_law 1454 = .ok (.iload 29, 2) := by decide +kernel
theorem dL_law_1456 : decode cL_law 1456 = .ok (.ifCond .eq 5, 3) := by decide +kernel
theorem dL_law_1459 : decode cL_law 1459 = .ok (.iconst 0, 1) := by decide +kernel
theorem dL_law_1460 : decode cL_law 1460 = .ok (.ireturn, 1) := by decide +kernel
theorem dL_law_1461 : decode cL_law 1461 = .ok (.iconst 0, 1) := by decide +kernel
theorem dL_law_1462 : decode cL_law 1462 = .ok (.istore 30, 2) := by decide +kernel
theorem dL_law_1464 : decode cL_law 1464 = .ok (.iload 30, 2) := by decide +kernel
theorem dL_law_1466 : decode cL_law 1466 = .ok (.iconst 4, 1) := by decide +kernel
theorem dL_law_1467 : decode cL_law 1467 = .ok (.if_icmp .ge 30, 3) := by decide +kernel
theorem dL_law_1470 : decode cL_law 1470 = .ok (.aload_n 3, 1) := by decide +kernel
theorem dL_law_1471 : decode cL_law 1471 = .ok (.iload 27, 2) := by decide +kernel
theorem dL_law_1473 : decode cL_law 1473 = .ok (.iload 30, 2) := by decide +kernel
theorem dL_law_1475 : decode cL_law 1475 = .ok (.invokevirtual 215, 3) := by decide +kernel
theorem dL_law_1478 : decode cL_law 1478 = .ok (.aload 12, 2) := by decide +kernel
theorem dL_law_1480 : decode cL_law 1480 = .ok (.iload 27, 2) := by decide +kernel
theorem dL_law_1482 : decode cL_law 1482 = .ok (.aaload, 1) := by decide +kernel
theorem dL_law_1483 : decode cL_law 1483 = .ok (.iload 30, 2) := by decide +kernel
theorem dL_law_1485 : decode cL_law 1485 = .ok (.iaload, 1) := by decide +kernel
theorem dL_law_1486 : decode cL_law 1486 = .ok (.if_icmp .eq 5, 3) := by decide +kernel
theorem dL_law_1489 : decode cL_law 1489 = .ok (.iconst 0, 1) := by decide +kernel
theorem dL_law_1490 : decode cL_law 1490 = .ok (.ireturn, 1) := by decide +kernel
theorem dL_law_1491 : decode cL_law 1491 = .ok (.iinc 30 1, 3) := by decide +kernel
theorem dL_law_1494 : decode cL_law 1494 = .ok (.goto (-30), 3) := by decide +kernel
theorem dL_law_1497 : decode cL_law 1497 = .ok (.iinc 27 1, 3) := by decide +kernel
theorem dL_law_1500 : decode cL_law 1500 = .ok (.goto (-222), 3) := by decide +kernel
theorem dL_law_1503 : decode cL_law 1503 = .ok (.iconst 0, 1) := by decide +kernel
theorem dL_law_1504 : decode cL_law 1504 = .ok (.istore 27, 2) := by decide +kernel
theorem dL_law_1506 : decode cL_law 1506 = .ok (.iconst 0, 1) := by decide +kernel
theorem dL_law_1507 : decode cL_law 1507 = .ok (.istore 28, 2) := by decide +kernel
theorem dL_law_1509 : decode cL_law 1509 = .ok (.iload 28, 2) := by decide +kernel
theorem dL_law_1511 : decode cL_law 1511 = .ok (.aload_n 2, 1) := by decide +kernel
theorem dL_law_1512 : decode cL_law 1512 = .ok (.getfield 155, 3) := by decide +kernel
theorem dL_law_1515 : decode cL_law 1515 = .ok (.if_icmp .ge 46, 3) := by decide +kernel
theorem dL_law_1518 : decode cL_law 1518 = .ok (.iload 27, 2) := by decide +kernel
theorem dL_law_1520 : decode cL_law 1520 = .ok (.aload_n 2, 1) := by decide +kernel
theorem dL_law_1521 : decode cL_law 1521 = .ok (.getfield 158, 3) := by decide +kernel
theorem dL_law_1524 : decode cL_law 1524 = .ok (.iload 28, 2) := by decide +kernel
theorem dL_law_1526 : decode cL_law 1526 = .ok (.aaload, 1) := by decide +kernel
theorem dL_law_1527 : decode cL_law 1527 = .ok (.iconst 2, 1) := by decide +kernel
theorem dL_law_1528 : decode cL_law 1528 = .ok (.iaload, 1) := by decide +kernel
theorem dL_law_1529 : decode cL_law 1529 = .ok (.iconst 3, 1) := by decide +kernel
theorem dL_law_1530 : decode cL_law 1530 = .ok (.if_icmp .eq 17, 3) := by decide +kernel
theorem dL_law_1533 : decode cL_law 1533 = .ok (.aload_n 2, 1) := by decide +kernel
theorem dL_law_1534 : decode cL_law 1534 = .ok (.getfield 158, 3) := by decide +kernel
theorem dL_law_1537 : decode cL_law 1537 = .ok (.iload 28, 2) := by decide +kernel
theorem dL_law_1539 : decode cL_law 1539 = .ok (.aaload, 1) := by decide +kernel
theorem dL_law_1540 : decode cL_law 1540 = .ok (.iconst 2, 1) := by decide +kernel
theorem dL_law_1541 : decode cL_law 1541 = .ok (.iaload, 1) := by decide +kernel
theorem dL_law_1542 : decode cL_law 1542 = .ok (.bipush 7, 2) := by decide +kernel
theorem dL_law_1544 : decode cL_law 1544 = .ok (.if_icmp .ne 7, 3) := by decide +kernel
theorem dL_law_1547 : decode cL_law 1547 = .ok (.iconst 1, 1) := by decide +kernel
theorem dL_law_1548 : decode cL_law 1548 = .ok (.goto 4, 3) := by decide +kernel
theorem dL_law_1551 : decode cL_law 1551 = .ok (.iconst 0, 1) := by decide +kernel
theorem dL_law_1552 : decode cL_law 1552 = .ok (.ior, 1) := by decide +kernel
theorem dL_law_1553 : decode cL_law 1553 = .ok (.istore 27, 2) := by decide +kernel
theorem dL_law_1555 : decode cL_law 1555 = .ok (.iinc 28 1, 3) := by decide +kernel
theorem dL_law_1558 : decode cL_law 1558 = .ok (.goto (-49), 3) := by decide +kernel
theorem dL_law_1561 : decode cL_law 1561 = .ok (.iload 6, 2) := by decide +kernel
theorem dL_law_1563 : decode cL_law 1563 = .ok (.ifCond .ne 13, 3) := by decide +kernel
theorem dL_law_1566 : decode cL_law 1566 = .ok (.iload 27, 2) := by decide +kernel
theorem dL_law_1568 : decode cL_law 1568 = .ok (.ifCond .ne 8, 3) := by decide +kernel
theorem dL_law_1571 : decode cL_law 1571 = .ok (.iload 21, 2) := by decide +kernel
theorem dL_law_1573 : decode cL_law 1573 = .ok (.ifCond .ne 13, 3) := by decide +kernel
theorem dL_law_1576 : decode cL_law 1576 = .ok (.iload 26, 2) := by decide +kernel
theorem dL_law_1578 : decode cL_law 1578 = .ok (.iload 6, 2) := by decide +kernel
theorem dL_law_1580 : decode cL_law 1580 = .ok (.iload 23, 2) := by decide +kernel
theorem dL_law_1582 : decode cL_law 1582 = .ok (.imul, 1) := by decide +kernel
theorem dL_law_1583 : decode cL_law 1583 = .ok (.if_icmp .le 5, 3) := by decide +kernel
theorem dL_law_1586 : decode cL_law 1586 = .ok (.iconst 0, 1) := by decide +kernel
theorem dL_law_1587 : decode cL_law 1587 = .ok (.ireturn, 1) := by decide +kernel
theorem dL_law_1588 : decode cL_law 1588 = .ok (.iinc 7 1, 3) := by decide +kernel
theorem dL_law_1591 : decode cL_law 1591 = .ok (.goto (-1532), 3) := by decide +kernel
theorem dL_law_1594 : decode cL_law 1594 = .ok (.iconst 1, 1) := by decide +kernel
theorem dL_law_1595 : decode cL_law 1595 = .ok (.ireturn, 1) := by decide +kernel
theorem gL_law_X11_pact : GoodIn wsL_law (wsV RL 215 RX11 yX11_pact wsX11_pact) := sorry
theorem gL_law_X11_ground : GoodIn wsL_law (wsV RL 213 RX11 yX11_ground wsX11_ground) := sorry
theorem gL_law_X11_fisher : GoodIn wsL_law (wsV RL 206 RX11 yX11_fisher wsX11_fisher) := sorry
theorem gL_law_X11_took : GoodIn wsL_law (wsV RL 245 RX11 yX11_took wsX11_took) := sorry
theorem gL_law_X11_blame : GoodIn wsL_law (wsV RL 236 RX11 yX11_blame wsX11_blame) := sorry
theorem gL_law_X11_pass : GoodIn wsL_law (wsV RL 239 RX11 yX11_pass wsX11_pass) := sorry
theorem gL_law_X11_count : GoodIn wsL_law (wsV RL 203 RX11 yX11_count wsX11_count) := sorry
theorem gL_law_X11_gap : GoodIn wsL_law (wsV RL 242 RX11 yX11_gap wsX11_gap) := sorry
theorem gL_law_X11_digest : GoodIn wsL_law (wsV RL 220 RX11 yX11_digest wsX11_digest) := sorry
theorem gL_law_X11_foresee : GoodIn wsL_law (wsV RL 224 RX11 yX11_foresee wsX11_foresee) := sorry
theorem gL_law_L_below : GoodIn wsL_law (va_wsS RL 124 yL_below wsL_below) := sorry
theorem gL_law_X11_empty : GoodIn wsL_law (wsV RL 227 RX11 yX11_empty wsX11_empty) := sorry
theorem gL_law_X11_pays : GoodIn wsL_law (wsV RL 230 RX11 yX11_pays wsX11_pays) := sorry
theorem gL_law_X11_advise : GoodIn wsL_law (wsV RL 233 RX11 yX11_advise wsX11_advise) := sorry
theorem gL_law_X11_lot : GoodIn wsL_law (wsV RL 217 RX11 yX11_lot wsX11_lot) := sorry
theorem gL_law_X11_cheat : GoodIn wsL_law (wsV RL 208 RX11 yX11_cheat wsX11_cheat) := sorry
theorem gL_law_L_cell : GoodIn wsL_law (va_wsS RL 118 yL_cell wsL_cell) := sorry
theorem gL_law_J4_init_da8c8 : GoodIn wsL_law (wsJ4_init_da8c8) := sorry
theorem gL_law_L_shore : GoodIn wsL_law (va_wsS RL 194 yL_shore wsL_shore) := sorry
theorem gL_law_X11_init : GoodIn wsL_law (wsX11_init) := sorry
theorem gL_law_J4_toString_0e30d : GoodIn wsL_law (wsV RL 50 RJ4 yJ4_toString_0e30d wsJ4_toString_0e30d) := sorry
theorem gL_law_L_taught : GoodIn wsL_law (va_wsS RL 199 yL_taught wsL_taught) := sorry
theorem k_L_law_f155 : Cond.fieldLink RL 155 "TideLotsLaw$Sim" "goes" "I" ∈ wsL_law := sorry
theorem i_L_law_X12 : ∀ w ∈ u_ws RX12 TX12 20, w ∈ wsL_law := by decide +kernel
theorem k_L_law_f158 : Cond.fieldLink RL 158 "TideLotsLaw$Sim" "go" "[[I" ∈ wsL_law := sorry
theorem k_L_law_f181 : Cond.fieldLink RL 181 "TideLotsLaw$Sim" "member" "[[I" ∈ wsL_law := sorry
theorem k_L_law_acint : Cond.arrayClass .int ∈ wsL_law := sorry
theorem k_L_law_acboolean : Cond.arrayClass .boolean ∈ wsL_law := sorry
theorem k_L_law_cl212 : Cond.classLink RL 212 "[[I" ∈ wsL_law := sorry
theorem i_L_law_J4 : ∀ w ∈ u_ws RJ4 TJ4 4, w ∈ wsL_law := by decide +kernel
theorem k_L_law_cl32 : Cond.classLink RL 32 RJ4 ∈ wsL_law := sorry
theorem k_L_law_inJ4 : Cond.instantiable RJ4 4 ∈ wsL_law := sorry
theorem k_L_law_iiJ4 : Cond.initialized RJ4 ∈ wsL_law := sorry
theorem k_L_law_ml34 : Cond.methodLink RL 34 yJ4_init_da8c8 ∈ wsL_law := sorry
theorem k_L_law_imJ4_init_da8c8 : Cond.instanceMethod yJ4_init_da8c8 ∈ wsL_law := sorry
theorem i_L_law_X11 : ∀ w ∈ u_ws RX11 TX11 4, w ∈ wsL_law := by decide +kernel
theorem k_L_law_cl10 : Cond.classLink RL 10 RX11 ∈ wsL_law := sorry
theorem k_L_law_inX11 : Cond.instantiable RX11 4 ∈ wsL_law := sorry
theorem k_L_law_iiX11 : Cond.initialized RX11 ∈ wsL_law := sorry
theorem k_L_law_ml198 : Cond.methodLink RL 198 yX11_init ∈ wsL_law := sorry
theorem k_L_law_imX11_init : Cond.instanceMethod yX11_init ∈ wsL_law := sorry
abbrev rL_law : Room := { frames := 71, cells := 600086, slots := 7301442, locals := 2718 }
noncomputable def b_L_law_1586 (Z : Nat → Nat) (M : gMem) (kc : Nat) (kn : Nat) : Option ((Nat ⊕ Int32) × gMem) :=
  ck (kc ≤ 600086 ∧ kn ≤ 7301442) <| some (.inr (0 : Int32), M)
noncomputable def b_L_law_1576 (Z : Nat → Nat) (M : gMem) (kc : Nat) (kn : Nat) (x2 : Option Nat) (x3 : Option Nat) (x4 : Int32) (x5 : Int32) (x6 : Int32) (x7 : Int32) (x23 : Int32) (x26 : Int32) : Option ((gMem × Nat × Nat × Int32) ⊕ ((Nat ⊕ Int32) × gMem)) :=
  (if x26 ≤ (x6 * x23) then some (.inl (M, kc, kn, (x7 + (1 : Int32)))) else oI (b_L_law_1586 Z M kc kn))
noncomputable def b_L_law_1552 (Z : Nat → Nat) (M : gMem) (kc : Nat) (kn : Nat) (x2 : Option Nat) (x3 : Option Nat) (x4 : Int32) (x5 : Int32) (x6 : Int32) (x7 : Int32) (x21 : Int32) (x23 : Int32) (x26 : Int32) (x28 : Int32) (s0 : Int32) (s1 : Int32) : Option ((gMem × Nat × Nat × Int32 × Int32) ⊕ ((gMem × Nat × Nat × Int32) ⊕ ((Nat ⊕ Int32) × gMem))) :=
  some (.inl (M, kc, kn, (s0 ||| s1), (x28 + (1 : Int32))))
noncomputable def b_L_law_1547 (Z : Nat → Nat) (M : gMem) (kc : Nat) (kn : Nat) (x2 : Option Nat) (x3 : Option Nat) (x4 : Int32) (x5 : Int32) (x6 : Int32) (x7 : Int32) (x21 : Int32) (x23 : Int32) (x26 : Int32) (x28 : Int32) (s0 : Int32) : Option ((gMem × Nat × Nat × Int32 × Int32) ⊕ ((gMem × Nat × Nat × Int32) ⊕ ((Nat ⊕ Int32) × gMem))) :=
  b_L_law_1552 Z M kc kn x2 x3 x4 x5 x6 x7 x21 x23 x26 x28 s0 ((1 : Int32))
noncomputable def bb_L_law_1509 (Z : Nat → Nat) (M : gMem) (kc : Nat) (kn : Nat) (x2 : Option Nat) (x3 : Option Nat) (x4 : Int32) (x5 : Int32) (x6 : Int32) (x7 : Int32) (x21 : Int32) (x23 : Int32) (x26 : Int32) (x27 : Int32) (x28 : Int32) : Option ((gMem × Nat × Nat × Int32 × Int32) ⊕ ((gMem × Nat × Nat × Int32) ⊕ ((Nat ⊕ Int32) × gMem))) :=
  dr x2 fun a3 => ck (mT M a3 = 11) <| (if (mI M a3 5) ≤ x28 then (if x6 = 0 then (if x27 = 0 then (if x21 = 0 then oI (b_L_law_1576 Z M kc kn x2 x3 x4 x5 x6 x7 x23 x26) else oI (oI (b_L_law_1586 Z M kc kn))) else oI (b_L_law_1576 Z M kc kn x2 x3 x4 x5 x6 x7 x23 x26)) else oI (b_L_law_1576 Z M kc kn x2 x3 x4 x5 x6 x7 x23 x26)) else dr ((mR M a3 4)) fun a10 => ck (mT M a10 = 28) <| ck (inb x28 (mL M a10)) <| dr ((mR M a10 x28.toNatClampNeg)) fun a13 => ck (mT M a13 = 20) <| ck (inb (2 : Int32) (mL M a13)) <| (if (mI M a13 ((2 : Int32)).toNatClampNeg) = (3 : Int32) then b_L_law_1547 Z M kc kn x2 x3 x4 x5 x6 x7 x21 x23 x26 x28 x27 else ck (inb x28 (mL M a10)) <| ck (inb (2 : Int32) (mL M a13)) <| (if (mI M a13 ((2 : Int32)).toNatClampNeg) = (7 : Int32) then b_L_law_1547 Z M kc kn x2 x3 x4 x5 x6 x7 x21 x23 x26 x28 x27 else b_L_law_1552 Z M kc kn x2 x3 x4 x5 x6 x7 x21 x23 x26 x28 x27 ((0 : Int32)))))
noncomputable def lp_L_law_1509 (Z : Nat → Nat) (M : gMem) (kc : Nat) (kn : Nat) (x2 : Option Nat) (x3 : Option Nat) (x4 : Int32) (x5 : Int32) (x6 : Int32) (x7 : Int32) (x21 : Int32) (x23 : Int32) (x26 : Int32) (x27 : Int32) (x28 : Int32) : Option ((gMem × Nat × Nat × Int32) ⊕ ((Nat ⊕ Int32) × gMem)) :=
  lp (fun (q : gMem × Nat × Nat × Int32 × Int32) => bb_L_law_1509 Z q.1 q.2.1 q.2.2.1 x2 x3 x4 x5 x6 x7 x21 x23 x26 q.2.2.2.1 q.2.2.2.2) (M, kc, kn, x27, x28)
noncomputable def bb_L_law_1464 (Z : Nat → Nat) (M : gMem) (kc : Nat) (kn : Nat) (x2 : Option Nat) (x3 : Option Nat) (x4 : Int32) (x5 : Int32) (x6 : Int32) (x7 : Int32) (x10 : Option Nat) (x12 : Option Nat) (x21 : Int32) (x23 : Int32) (x26 : Int32) (x27 : Int32) (x30 : Int32) : Option ((gMem × Nat × Nat × Int32) ⊕ ((gMem × Nat × Nat × Int32 × Int32) ⊕ ((gMem × Nat × Nat × Int32) ⊕ ((Nat ⊕ Int32) × gMem)))) :=
  (if (4 : Int32) ≤ x30 then oI (some (.inl (M, kc, kn, x26, (x27 + (1 : Int32))))) else dr x3 fun a20 => ck (mT M a20 = 10) <| ck (kc + 1 ≤ 600086 ∧ kn + 6 ≤ 7301442) <| bx (f_X11_pact M a20 x27 x30) (fun e19 M19 => oI (oI (oI (some (.inl e19, M19))))) fun r19 M19 => dr x12 fun a26 => ck (mT M19 a26 = 28) <| ck (inb x27 (mL M19 a26)) <| dr ((mR M19 a26 x27.toNatClampNeg)) fun a29 => ck (mT M19 a29 = 20) <| ck (inb x30 (mL M19 a29)) <| (if r19 = (mI M19 a29 x30.toNatClampNeg) then some (.inl (M19, (kc + 1), (kn + 6), (x30 + (1 : Int32)))) else ck ((kc + 1) ≤ 600086 ∧ (kn + 6) ≤ 7301442) <| oI (oI (oI (some (.inr (0 : Int32), M19))))))
noncomputable def lp_L_law_1464 (Z : Nat → Nat) (M : gMem) (kc : Nat) (kn : Nat) (x2 : Option Nat) (x3 : Option Nat) (x4 : Int32) (x5 : Int32) (x6 : Int32) (x7 : Int32) (x10 : Option Nat) (x12 : Option Nat) (x21 : Int32) (x23 : Int32) (x26 : Int32) (x27 : Int32) (x30 : Int32) : Option ((gMem × Nat × Nat × Int32 × Int32) ⊕ ((gMem × Nat × Nat × Int32) ⊕ ((Nat ⊕ Int32) × gMem))) :=
  lp (fun (q : gMem × Nat × Nat × Int32) => bb_L_law_1464 Z q.1 q.2.1 q.2.2.1 x2 x3 x4 x5 x6 x7 x10 x12 x21 x23 x26 x27 q.2.2.2) (M, kc, kn, x30)
noncomputable def b_L_law_1461 (Z : Nat → Nat) (M : gMem) (kc : Nat) (kn : Nat) (x2 : Option Nat) (x3 : Option Nat) (x4 : Int32) (x5 : Int32) (x6 : Int32) (x7 : Int32) (x10 : Option Nat) (x12 : Option Nat) (x21 : Int32) (x23 : Int32) (x26 : Int32) (x27 : Int32) : Option ((gMem × Nat × Nat × Int32 × Int32) ⊕ ((gMem × Nat × Nat × Int32) ⊕ ((Nat ⊕ Int32) × gMem))) :=
  lp_L_law_1464 Z M kc kn x2 x3 x4 x5 x6 x7 x10 x12 x21 x23 x26 x27 ((0 : Int32))
noncomputable def b_L_law_1459 (Z : Nat → Nat) (M : gMem) (kc : Nat) (kn : Nat) : Option ((Nat ⊕ Int32) × gMem) :=
  ck (kc ≤ 600086 ∧ kn ≤ 7301442) <| some (.inr (0 : Int32), M)
noncomputable def b_L_law_1412 (Z : Nat → Nat) (M : gMem) (kc : Nat) (kn : Nat) (x2 : Option Nat) (x3 : Option Nat) (x4 : Int32) (x5 : Int32) (x6 : Int32) (x7 : Int32) (x10 : Option Nat) (x12 : Option Nat) (x21 : Int32) (x23 : Int32) (x26 : Int32) (x27 : Int32) (x29 : Int32) (s0 : Int32) (s1 : Int32) (s2 : Int32) : Option ((gMem × Nat × Nat × Int32 × Int32) ⊕ ((gMem × Nat × Nat × Int32) ⊕ ((Nat ⊕ Int32) × gMem))) :=
  (if s0 = (s1 + s2) then dr x3 fun a40 => ck (mT M a40 = 10) <| ck (kc + 1 ≤ 600086 ∧ kn + 6 ≤ 7301442) <| bx (f_X11_pact M a40 x27 ((4 : Int32))) (fun e39 M39 => oI (oI (some (.inl e39, M39)))) fun r39 M39 => dr x12 fun a45 => ck (mT M39 a45 = 28) <| ck (inb x27 (mL M39 a45)) <| dr ((mR M39 a45 x27.toNatClampNeg)) fun a48 => ck (mT M39 a48 = 20) <| ck (inb (4 : Int32) (mL M39 a48)) <| (if r39 < (mI M39 a48 ((4 : Int32)).toNatClampNeg) then oI (oI (b_L_law_1459 Z M39 ((kc + 1)) ((kn + 6)))) else ck (inb x27 (mL M39 a45)) <| ck (inb (0 : Int32) (mL M39 a48)) <| (if (mI M39 a48 ((0 : Int32)).toNatClampNeg) = (1 : Int32) then ck (mT M39 a40 = 10) <| ck ((kc + 1) + 1 ≤ 600086 ∧ (kn + 6) + 6 ≤ 7301442) <| bx (f_X11_pact M39 a40 x27 ((4 : Int32))) (fun e55 M55 => oI (oI (some (.inl e55, M55)))) fun r55 M55 => (if r55 = 0 then (if x29 = 0 then b_L_law_1461 Z M55 (((kc + 1) + 1)) (((kn + 6) + 6)) x2 x3 x4 x5 x6 x7 x10 x12 x21 x23 x26 x27 else oI (oI (b_L_law_1459 Z M55 (((kc + 1) + 1)) (((kn + 6) + 6))))) else oI (oI (b_L_law_1459 Z M55 (((kc + 1) + 1)) (((kn + 6) + 6))))) else b_L_law_1461 Z M39 ((kc + 1)) ((kn + 6)) x2 x3 x4 x5 x6 x7 x10 x12 x21 x23 x26 x27)) else oI (oI (b_L_law_1459 Z M kc kn)))
noncomputable def b_L_law_1386 (Z : Nat → Nat) (M : gMem) (kc : Nat) (kn : Nat) (x2 : Option Nat) (x3 : Option Nat) (x4 : Int32) (x5 : Int32) (x6 : Int32) (x7 : Int32) (x10 : Option Nat) (x12 : Option Nat) (x21 : Int32) (x23 : Int32) (x26 : Int32) (x27 : Int32) (x29 : Int32) : Option ((gMem × Nat × Nat × Int32 × Int32) ⊕ ((gMem × Nat × Nat × Int32) ⊕ ((Nat ⊕ Int32) × gMem))) :=
  dr x3 fun a65 => ck (mT M a65 = 10) <| ck (kc + 1 ≤ 600086 ∧ kn + 6 ≤ 7301442) <| bx (f_X11_pact M a65 x27 ((6 : Int32))) (fun e64 M64 => oI (oI (some (.inl e64, M64)))) fun r64 M64 => dr x12 fun a70 => ck (mT M64 a70 = 28) <| ck (inb x27 (mL M64 a70)) <| dr ((mR M64 a70 x27.toNatClampNeg)) fun a73 => ck (mT M64 a73 = 20) <| ck (inb (6 : Int32) (mL M64 a73)) <| (if x29 ≤ 0 then b_L_law_1412 Z M64 ((kc + 1)) ((kn + 6)) x2 x3 x4 x5 x6 x7 x10 x12 x21 x23 x26 x27 x29 r64 ((mI M64 a73 ((6 : Int32)).toNatClampNeg)) ((0 : Int32)) else b_L_law_1412 Z M64 ((kc + 1)) ((kn + 6)) x2 x3 x4 x5 x6 x7 x10 x12 x21 x23 x26 x27 x29 r64 ((mI M64 a73 ((6 : Int32)).toNatClampNeg)) ((1 : Int32)))
noncomputable def b_L_law_1338 (Z : Nat → Nat) (M : gMem) (kc : Nat) (kn : Nat) (x2 : Option Nat) (x3 : Option Nat) (x4 : Int32) (x5 : Int32) (x6 : Int32) (x7 : Int32) (x10 : Option Nat) (x12 : Option Nat) (x21 : Int32) (x23 : Int32) (x26 : Int32) (x27 : Int32) (x29 : Option Nat) (x30 : Int32) (x31 : Int32) (s0 : Int32) (s1 : Int32) : Option ((gMem × Nat × Nat × Int32 × Int32) ⊕ ((gMem × Nat × Nat × Int32 × Int32) ⊕ ((gMem × Nat × Nat × Int32) ⊕ ((Nat ⊕ Int32) × gMem)))) :=
  some (.inl (M, kc, kn, (s0 ||| s1), (x31 + (1 : Int32))))
noncomputable def bb_L_law_1305 (Z : Nat → Nat) (M : gMem) (kc : Nat) (kn : Nat) (x2 : Option Nat) (x3 : Option Nat) (x4 : Int32) (x5 : Int32) (x6 : Int32) (x7 : Int32) (x10 : Option Nat) (x12 : Option Nat) (x21 : Int32) (x23 : Int32) (x26 : Int32) (x27 : Int32) (x28 : Int32) (x29 : Option Nat) (x30 : Int32) (x31 : Int32) : Option ((gMem × Nat × Nat × Int32 × Int32) ⊕ ((gMem × Nat × Nat × Int32 × Int32) ⊕ ((gMem × Nat × Nat × Int32) ⊕ ((Nat ⊕ Int32) × gMem)))) :=
  (if x30 ≤ x31 then dr x3 fun a77 => ck (mT M a77 = 10) <| ck (kc + 1 ≤ 600086 ∧ kn + 6 ≤ 7301442) <| bx (f_X11_pact M a77 x27 ((5 : Int32))) (fun e76 M76 => oI (oI (oI (some (.inl e76, M76))))) fun r76 M76 => dr x12 fun a83 => ck (mT M76 a83 = 28) <| ck (inb x27 (mL M76 a83)) <| dr ((mR M76 a83 x27.toNatClampNeg)) fun a86 => ck (mT M76 a86 = 20) <| ck (inb (5 : Int32) (mL M76 a86)) <| (if (r76 - (mI M76 a86 ((5 : Int32)).toNatClampNeg)) < 0 then oI (oI (oI (b_L_law_1459 Z M76 ((kc + 1)) ((kn + 6))))) else (if (r76 - (mI M76 a86 ((5 : Int32)).toNatClampNeg)) ≤ 0 then oI (b_L_law_1386 Z M76 ((kc + 1)) ((kn + 6)) x2 x3 x4 x5 x6 x7 x10 x12 x21 x23 ((x26 + (r76 - (mI M76 a86 ((5 : Int32)).toNatClampNeg)))) x27 ((r76 - (mI M76 a86 ((5 : Int32)).toNatClampNeg)))) else (if x28 = 0 then oI (oI (oI (b_L_law_1459 Z M76 ((kc + 1)) ((kn + 6))))) else oI (b_L_law_1386 Z M76 ((kc + 1)) ((kn + 6)) x2 x3 x4 x5 x6 x7 x10 x12 x21 x23 ((x26 + (r76 - (mI M76 a86 ((5 : Int32)).toNatClampNeg)))) x27 ((r76 - (mI M76 a86 ((5 : Int32)).toNatClampNeg))))))) else dr x29 fun a97 => ck (mT M a97 = 20) <| ck (inb x31 (mL M a97)) <| dr x10 fun a100 => ck (mT M a100 = 28) <| ck (inb (mI M a97 x31.toNatClampNeg) (mL M a100)) <| dr ((mR M a100 ((mI M a97 x31.toNatClampNeg)).toNatClampNeg)) fun a103 => ck (mT M a103 = 20) <| ck (inb (8 : Int32) (mL M a103)) <| (if (mI M a103 ((8 : Int32)).toNatClampNeg) = (1 : Int32) then b_L_law_1338 Z M kc kn x2 x3 x4 x5 x6 x7 x10 x12 x21 x23 x26 x27 x29 x30 x31 x28 ((1 : Int32)) else b_L_law_1338 Z M kc kn x2 x3 x4 x5 x6 x7 x10 x12 x21 x23 x26 x27 x29 x30 x31 x28 ((0 : Int32))))
noncomputable def lp_L_law_1305 (Z : Nat → Nat) (M : gMem) (kc : Nat) (kn : Nat) (x2 : Option Nat) (x3 : Option Nat) (x4 : Int32) (x5 : Int32) (x6 : Int32) (x7 : Int32) (x10 : Option Nat) (x12 : Option Nat) (x21 : Int32) (x23 : Int32) (x26 : Int32) (x27 : Int32) (x28 : Int32) (x29 : Option Nat) (x30 : Int32) (x31 : Int32) : Option ((gMem × Nat × Nat × Int32 × Int32) ⊕ ((gMem × Nat × Nat × Int32) ⊕ ((Nat ⊕ Int32) × gMem))) :=
  lp (fun (q : gMem × Nat × Nat × Int32 × Int32) => bb_L_law_1305 Z q.1 q.2.1 q.2.2.1 x2 x3 x4 x5 x6 x7 x10 x12 x21 x23 x26 x27 q.2.2.2.1 x29 x30 q.2.2.2.2) (M, kc, kn, x28, x31)
noncomputable def bb_L_law_1278 (Z : Nat → Nat) (M : gMem) (kc : Nat) (kn : Nat) (x2 : Option Nat) (x3 : Option Nat) (x4 : Int32) (x5 : Int32) (x6 : Int32) (x7 : Int32) (x10 : Option Nat) (x12 : Option Nat) (x21 : Int32) (x23 : Int32) (x26 : Int32) (x27 : Int32) : Option ((gMem × Nat × Nat × Int32 × Int32) ⊕ ((gMem × Nat × Nat × Int32) ⊕ ((Nat ⊕ Int32) × gMem))) :=
  (if x6 ≤ x27 then oI (lp_L_law_1509 Z M kc kn x2 x3 x4 x5 x6 x7 x21 x23 x26 ((0 : Int32)) ((0 : Int32))) else dr x2 fun a107 => ck (mT M a107 = 11) <| dr ((mR M a107 7)) fun a109 => ck (mT M a109 = 28) <| ck (inb x27 (mL M a109)) <| dr ((mR M a109 x27.toNatClampNeg)) fun a112 => ck (mT M a112 = 20) <| lp_L_law_1305 Z M kc kn x2 x3 x4 x5 x6 x7 x10 x12 x21 x23 x26 x27 ((0 : Int32)) ((mR M a109 x27.toNatClampNeg)) ((Int32.ofNat (mL M a112))) ((0 : Int32)))
noncomputable def lp_L_law_1278 (Z : Nat → Nat) (M : gMem) (kc : Nat) (kn : Nat) (x2 : Option Nat) (x3 : Option Nat) (x4 : Int32) (x5 : Int32) (x6 : Int32) (x7 : Int32) (x10 : Option Nat) (x12 : Option Nat) (x21 : Int32) (x23 : Int32) (x26 : Int32) (x27 : Int32) : Option ((gMem × Nat × Nat × Int32) ⊕ ((Nat ⊕ Int32) × gMem)) :=
  lp (fun (q : gMem × Nat × Nat × Int32 × Int32) => bb_L_law_1278 Z q.1 q.2.1 q.2.2.1 x2 x3 x4 x5 x6 x7 x10 x12 x21 x23 q.2.2.2.1 q.2.2.2.2) (M, kc, kn, x26, x27)
noncomputable def b_L_law_1266 (Z : Nat → Nat) (M : gMem) (kc : Nat) (kn : Nat) (x2 : Option Nat) (x3 : Option Nat) (x4 : Int32) (x5 : Int32) (x6 : Int32) (x7 : Int32) (x10 : Option Nat) (x11 : Option Nat) (x12 : Option Nat) (x19 : Int32) (x20 : Int32) (x21 : Int32) (x23 : Int32) (x24 : Option Nat) (x26 : Int32) : Option ((gMem × Nat × Nat × Int32) ⊕ ((gMem × Nat × Nat × Int32) ⊕ ((Nat ⊕ Int32) × gMem))) :=
  some (.inl (M, kc, kn, (x26 + (1 : Int32))))
noncomputable def b_L_law_1264 (Z : Nat → Nat) (M : gMem) (kc : Nat) (kn : Nat) : Option ((Nat ⊕ Int32) × gMem) :=
  ck (kc ≤ 600086 ∧ kn ≤ 7301442) <| some (.inr (0 : Int32), M)
noncomputable def b_L_law_1261 (Z : Nat → Nat) (M : gMem) (kc : Nat) (kn : Nat) (x2 : Option Nat) (x3 : Option Nat) (x4 : Int32) (x5 : Int32) (x6 : Int32) (x7 : Int32) (x10 : Option Nat) (x11 : Option Nat) (x12 : Option Nat) (x19 : Int32) (x20 : Int32) (x21 : Int32) (x23 : Int32) (x24 : Option Nat) (x26 : Int32) (s0 : Int32) (s1 : Int32) : Option ((gMem × Nat × Nat × Int32) ⊕ ((gMem × Nat × Nat × Int32) ⊕ ((Nat ⊕ Int32) × gMem))) :=
  (if s0 = s1 then b_L_law_1266 Z M kc kn x2 x3 x4 x5 x6 x7 x10 x11 x12 x19 x20 x21 x23 x24 x26 else oI (oI (b_L_law_1264 Z M kc kn)))
noncomputable def b_L_law_1251 (Z : Nat → Nat) (M : gMem) (kc : Nat) (kn : Nat) (x2 : Option Nat) (x3 : Option Nat) (x4 : Int32) (x5 : Int32) (x6 : Int32) (x7 : Int32) (x10 : Option Nat) (x11 : Option Nat) (x12 : Option Nat) (x19 : Int32) (x20 : Int32) (x21 : Int32) (x23 : Int32) (x24 : Option Nat) (x26 : Int32) (x29 : Int32) (s0 : Int32) : Option ((gMem × Nat × Nat × Int32) ⊕ ((gMem × Nat × Nat × Int32) ⊕ ((Nat ⊕ Int32) × gMem))) :=
  (if x29 = 0 then b_L_law_1261 Z M kc kn x2 x3 x4 x5 x6 x7 x10 x11 x12 x19 x20 x21 x23 x24 x26 s0 ((1 : Int32)) else b_L_law_1261 Z M kc kn x2 x3 x4 x5 x6 x7 x10 x11 x12 x19 x20 x21 x23 x24 x26 s0 ((0 : Int32)))
noncomputable def b_L_law_1208 (Z : Nat → Nat) (M : gMem) (kc : Nat) (kn : Nat) : Option ((Nat ⊕ Int32) × gMem) :=
  ck (kc ≤ 600086 ∧ kn ≤ 7301442) <| some (.inr (0 : Int32), M)
noncomputable def bb_L_law_1164 (Z : Nat → Nat) (M : gMem) (kc : Nat) (kn : Nat) (x2 : Option Nat) (x3 : Option Nat) (x4 : Int32) (x5 : Int32) (x6 : Int32) (x7 : Int32) (x10 : Option Nat) (x11 : Option Nat) (x12 : Option Nat) (x19 : Int32) (x20 : Int32) (x21 : Int32) (x23 : Int32) (x24 : Option Nat) (x26 : Int32) (x29 : Int32) (x30 : Int32) : Option ((gMem × Nat × Nat × Int32 × Int32) ⊕ ((gMem × Nat × Nat × Int32) ⊕ ((gMem × Nat × Nat × Int32) ⊕ ((Nat ⊕ Int32) × gMem)))) :=
  (if (6 : Int32) ≤ x30 then dr x3 fun a119 => ck (mT M a119 = 10) <| ck (kc + 2 ≤ 600086 ∧ kn + 12 ≤ 7301442) <| bx (f_X11_ground M a119 x26 ((0 : Int32))) (fun e118 M118 => oI (oI (oI (some (.inl e118, M118))))) fun r118 M118 => (if x29 = r118 then (if x26 = x19 then (if x20 ≤ 0 then oI (b_L_law_1266 Z M118 ((kc + 2)) ((kn + 12)) x2 x3 x4 x5 x6 x7 x10 x11 x12 x19 x20 x21 x23 x24 x26) else (if x20 = (1 : Int32) then oI (b_L_law_1251 Z M118 ((kc + 2)) ((kn + 12)) x2 x3 x4 x5 x6 x7 x10 x11 x12 x19 x20 x21 x23 x24 x26 x29 ((1 : Int32))) else oI (b_L_law_1251 Z M118 ((kc + 2)) ((kn + 12)) x2 x3 x4 x5 x6 x7 x10 x11 x12 x19 x20 x21 x23 x24 x26 x29 ((0 : Int32))))) else oI (b_L_law_1266 Z M118 ((kc + 2)) ((kn + 12)) x2 x3 x4 x5 x6 x7 x10 x11 x12 x19 x20 x21 x23 x24 x26)) else oI (oI (oI (b_L_law_1264 Z M118 ((kc + 2)) ((kn + 12)))))) else dr x3 fun a133 => ck (mT M a133 = 10) <| ck (kc + 2 ≤ 600086 ∧ kn + 12 ≤ 7301442) <| bx (f_X11_ground M a133 x26 x30) (fun e132 M132 => oI (oI (oI (some (.inl e132, M132))))) fun r132 M132 => ck (mT M132 a133 = 10) <| ck ((kc + 2) + 2 ≤ 600086 ∧ (kn + 12) + 12 ≤ 7301442) <| bx (f_X11_ground M132 a133 x26 x30) (fun e139 M139 => oI (oI (oI (some (.inl e139, M139))))) fun r139 M139 => (if r139 < 0 then oI (oI (oI (b_L_law_1208 Z M139 (((kc + 2) + 2)) (((kn + 12) + 12))))) else ck (mT M139 a133 = 10) <| ck (((kc + 2) + 2) + 2 ≤ 600086 ∧ ((kn + 12) + 12) + 12 ≤ 7301442) <| bx (f_X11_ground M139 a133 x26 x30) (fun e148 M148 => oI (oI (oI (some (.inl e148, M148))))) fun r148 M148 => (if r148 ≤ (99 : Int32) then some (.inl (M148, (((kc + 2) + 2) + 2), (((kn + 12) + 12) + 12), (x29 + r132), (x30 + (1 : Int32)))) else oI (oI (oI (b_L_law_1208 Z M148 ((((kc + 2) + 2) + 2)) ((((kn + 12) + 12) + 12))))))))
noncomputable def lp_L_law_1164 (Z : Nat → Nat) (M : gMem) (kc : Nat) (kn : Nat) (x2 : Option Nat) (x3 : Option Nat) (x4 : Int32) (x5 : Int32) (x6 : Int32) (x7 : Int32) (x10 : Option Nat) (x11 : Option Nat) (x12 : Option Nat) (x19 : Int32) (x20 : Int32) (x21 : Int32) (x23 : Int32) (x24 : Option Nat) (x26 : Int32) (x29 : Int32) (x30 : Int32) : Option ((gMem × Nat × Nat × Int32) ⊕ ((gMem × Nat × Nat × Int32) ⊕ ((Nat ⊕ Int32) × gMem))) :=
  lp (fun (q : gMem × Nat × Nat × Int32 × Int32) => bb_L_law_1164 Z q.1 q.2.1 q.2.2.1 x2 x3 x4 x5 x6 x7 x10 x11 x12 x19 x20 x21 x23 x24 x26 q.2.2.2.1 q.2.2.2.2) (M, kc, kn, x29, x30)
noncomputable def b_L_law_1158 (Z : Nat → Nat) (M : gMem) (kc : Nat) (kn : Nat) (x2 : Option Nat) (x3 : Option Nat) (x4 : Int32) (x5 : Int32) (x6 : Int32) (x7 : Int32) (x10 : Option Nat) (x11 : Option Nat) (x12 : Option Nat) (x19 : Int32) (x20 : Int32) (x21 : Int32) (x23 : Int32) (x24 : Option Nat) (x26 : Int32) : Option ((gMem × Nat × Nat × Int32) ⊕ ((gMem × Nat × Nat × Int32) ⊕ ((Nat ⊕ Int32) × gMem))) :=
  lp_L_law_1164 Z M kc kn x2 x3 x4 x5 x6 x7 x10 x11 x12 x19 x20 x21 x23 x24 x26 ((0 : Int32)) ((1 : Int32))
noncomputable def b_L_law_1156 (Z : Nat → Nat) (M : gMem) (kc : Nat) (kn : Nat) : Option ((Nat ⊕ Int32) × gMem) :=
  ck (kc ≤ 600086 ∧ kn ≤ 7301442) <| some (.inr (0 : Int32), M)
noncomputable def bb_L_law_1009 (Z : Nat → Nat) (M : gMem) (kc : Nat) (kn : Nat) (x2 : Option Nat) (x3 : Option Nat) (x4 : Int32) (x5 : Int32) (x6 : Int32) (x7 : Int32) (x10 : Option Nat) (x11 : Option Nat) (x12 : Option Nat) (x19 : Int32) (x20 : Int32) (x21 : Int32) (x23 : Int32) (x24 : Option Nat) (x26 : Int32) : Option ((gMem × Nat × Nat × Int32) ⊕ ((gMem × Nat × Nat × Int32) ⊕ ((Nat ⊕ Int32) × gMem))) :=
  (if x5 ≤ x26 then oI (lp_L_law_1278 Z M kc kn x2 x3 x4 x5 x6 x7 x10 x12 x21 x23 ((0 : Int32)) ((0 : Int32))) else dr x3 fun a160 => ck (mT M a160 = 10) <| ck (kc + 2 ≤ 600086 ∧ kn + 12 ≤ 7301442) <| bx (f_X11_ground M a160 x26 ((8 : Int32))) (fun e159 M159 => oI (oI (some (.inl e159, M159)))) fun r159 M159 => dr x11 fun a165 => ck (mT M159 a165 = 28) <| ck (inb x26 (mL M159 a165)) <| dr ((mR M159 a165 x26.toNatClampNeg)) fun a168 => ck (mT M159 a168 = 20) <| ck (inb (8 : Int32) (mL M159 a168)) <| ck (inb x26 (mL M159 a165)) <| ck (inb (0 : Int32) (mL M159 a168)) <| ck (mT M159 a160 = 10) <| ck ((kc + 2) + 2 ≤ 600086 ∧ (kn + 12) + 12 ≤ 7301442) <| bx (f_X11_ground M159 a160 x26 ((7 : Int32))) (fun e173 M173 => oI (oI (some (.inl e173, M173)))) fun r173 M173 => dr x24 fun a178 => ck (mT M173 a178 = 20) <| ck (inb x26 (mL M173 a178)) <| (if r173 = (mI M173 a178 x26.toNatClampNeg) then ck (inb x26 (mL M173 a178)) <| ck (mT M173 a165 = 28) <| ck (inb x26 (mL M173 a165)) <| dr ((mR M173 a165 x26.toNatClampNeg)) fun a186 => ck (mT M173 a186 = 20) <| ck (inb (6 : Int32) (mL M173 a186)) <| (if (mI M173 a186 ((6 : Int32)).toNatClampNeg) < (mI M173 a178 x26.toNatClampNeg) then oI (oI (b_L_law_1156 Z M173 (((kc + 2) + 2)) (((kn + 12) + 12)))) else ck (mT M173 a160 = 10) <| ck (((kc + 2) + 2) + 2 ≤ 600086 ∧ ((kn + 12) + 12) + 12 ≤ 7301442) <| bx (f_X11_ground M173 a160 x26 ((6 : Int32))) (fun e191 M191 => oI (oI (some (.inl e191, M191)))) fun r191 M191 => ck (mT M191 a165 = 28) <| ck (inb x26 (mL M191 a165)) <| dr ((mR M191 a165 x26.toNatClampNeg)) fun a198 => ck (mT M191 a198 = 20) <| ck (inb (6 : Int32) (mL M191 a198)) <| (if r191 = (mI M191 a198 ((6 : Int32)).toNatClampNeg) then (if (r159 - (mI M159 a168 ((8 : Int32)).toNatClampNeg)) < 0 then oI (oI (b_L_law_1156 Z M191 ((((kc + 2) + 2) + 2)) ((((kn + 12) + 12) + 12)))) else (if ((mI M159 a168 ((0 : Int32)).toNatClampNeg) - (r159 - (mI M159 a168 ((8 : Int32)).toNatClampNeg))) < 0 then oI (oI (b_L_law_1156 Z M191 ((((kc + 2) + 2) + 2)) ((((kn + 12) + 12) + 12)))) else ck (mT M191 a160 = 10) <| ck ((((kc + 2) + 2) + 2) + 2 ≤ 600086 ∧ (((kn + 12) + 12) + 12) + 12 ≤ 7301442) <| bx (f_X11_ground M191 a160 x26 ((0 : Int32))) (fun e207 M207 => oI (oI (some (.inl e207, M207)))) fun r207 M207 => (if (((mI M159 a168 ((0 : Int32)).toNatClampNeg) - (r159 - (mI M159 a168 ((8 : Int32)).toNatClampNeg))) + (((mI M159 a168 ((0 : Int32)).toNatClampNeg) - (r159 - (mI M159 a168 ((8 : Int32)).toNatClampNeg))) / (6 : Int32))) < r207 then oI (oI (b_L_law_1156 Z M207 (((((kc + 2) + 2) + 2) + 2)) (((((kn + 12) + 12) + 12) + 12)))) else ck (mT M207 a160 = 10) <| ck (((((kc + 2) + 2) + 2) + 2) + 2 ≤ 600086 ∧ ((((kn + 12) + 12) + 12) + 12) + 12 ≤ 7301442) <| bx (f_X11_ground M207 a160 x26 ((0 : Int32))) (fun e214 M214 => oI (oI (some (.inl e214, M214)))) fun r214 M214 => (if r214 < (((mI M159 a168 ((0 : Int32)).toNatClampNeg) - (r159 - (mI M159 a168 ((8 : Int32)).toNatClampNeg))) - (99 : Int32)) then oI (oI (b_L_law_1156 Z M214 ((((((kc + 2) + 2) + 2) + 2) + 2)) ((((((kn + 12) + 12) + 12) + 12) + 12)))) else (if ((mI M159 a168 ((0 : Int32)).toNatClampNeg) - (r159 - (mI M159 a168 ((8 : Int32)).toNatClampNeg))) = 0 then ck (mT M214 a160 = 10) <| ck ((((((kc + 2) + 2) + 2) + 2) + 2) + 2 ≤ 600086 ∧ (((((kn + 12) + 12) + 12) + 12) + 12) + 12 ≤ 7301442) <| bx (f_X11_ground M214 a160 x26 ((0 : Int32))) (fun e221 M221 => oI (oI (some (.inl e221, M221)))) fun r221 M221 => (if r221 = 0 then b_L_law_1158 Z M221 (((((((kc + 2) + 2) + 2) + 2) + 2) + 2)) (((((((kn + 12) + 12) + 12) + 12) + 12) + 12)) x2 x3 x4 x5 x6 x7 x10 x11 x12 x19 x20 x21 x23 x24 x26 else oI (oI (b_L_law_1156 Z M221 (((((((kc + 2) + 2) + 2) + 2) + 2) + 2)) (((((((kn + 12) + 12) + 12) + 12) + 12) + 12))))) else b_L_law_1158 Z M214 ((((((kc + 2) + 2) + 2) + 2) + 2)) ((((((kn + 12) + 12) + 12) + 12) + 12)) x2 x3 x4 x5 x6 x7 x10 x11 x12 x19 x20 x21 x23 x24 x26))))) else oI (oI (b_L_law_1156 Z M191 ((((kc + 2) + 2) + 2)) ((((kn + 12) + 12) + 12)))))) else oI (oI (b_L_law_1156 Z M173 (((kc + 2) + 2)) (((kn + 12) + 12))))))
noncomputable def lp_L_law_1009 (Z : Nat → Nat) (M : gMem) (kc : Nat) (kn : Nat) (x2 : Option Nat) (x3 : Option Nat) (x4 : Int32) (x5 : Int32) (x6 : Int32) (x7 : Int32) (x10 : Option Nat) (x11 : Option Nat) (x12 : Option Nat) (x19 : Int32) (x20 : Int32) (x21 : Int32) (x23 : Int32) (x24 : Option Nat) (x26 : Int32) : Option ((gMem × Nat × Nat × Int32) ⊕ ((Nat ⊕ Int32) × gMem)) :=
  lp (fun (q : gMem × Nat × Nat × Int32) => bb_L_law_1009 Z q.1 q.2.1 q.2.2.1 x2 x3 x4 x5 x6 x7 x10 x11 x12 x19 x20 x21 x23 x24 q.2.2.2) (M, kc, kn, x26)
noncomputable def bb_L_law_950 (Z : Nat → Nat) (M : gMem) (kc : Nat) (kn : Nat) (x2 : Option Nat) (x3 : Option Nat) (x4 : Int32) (x5 : Int32) (x6 : Int32) (x7 : Int32) (x10 : Option Nat) (x11 : Option Nat) (x12 : Option Nat) (x19 : Int32) (x20 : Int32) (x21 : Int32) (x23 : Int32) (x24 : Option Nat) (x25 : Int32) (x26 : Int32) (x30 : Int32) (x31 : Int32) : Option ((gMem × Nat × Nat × Int32 × Int32) ⊕ ((gMem × Nat × Nat × Int32 × Int32) ⊕ ((gMem × Nat × Nat × Int32) ⊕ ((Nat ⊕ Int32) × gMem)))) :=
  (if x5 ≤ x31 then dr x3 fun a229 => ck (mT M a229 = 10) <| ck (kc + 2 ≤ 600086 ∧ kn + 12 ≤ 7301442) <| bx (f_X11_fisher M a229 x26 ((9 : Int32))) (fun e228 M228 => oI (oI (oI (some (.inl e228, M228))))) fun r228 M228 => (if x30 = r228 then oI (some (.inl (M228, (kc + 2), (kn + 12), x25, (x26 + (1 : Int32))))) else ck ((kc + 2) ≤ 600086 ∧ (kn + 12) ≤ 7301442) <| oI (oI (oI (some (.inr (0 : Int32), M228))))) else dr x3 fun a241 => ck (mT M a241 = 10) <| ck (kc + 2 ≤ 600086 ∧ kn + 12 ≤ 7301442) <| bx (f_X11_took M a241 x31 x26) (fun e240 M240 => oI (oI (oI (some (.inl e240, M240))))) fun r240 M240 => some (.inl (M240, (kc + 2), (kn + 12), (x30 + r240), (x31 + (1 : Int32)))))
noncomputable def lp_L_law_950 (Z : Nat → Nat) (M : gMem) (kc : Nat) (kn : Nat) (x2 : Option Nat) (x3 : Option Nat) (x4 : Int32) (x5 : Int32) (x6 : Int32) (x7 : Int32) (x10 : Option Nat) (x11 : Option Nat) (x12 : Option Nat) (x19 : Int32) (x20 : Int32) (x21 : Int32) (x23 : Int32) (x24 : Option Nat) (x25 : Int32) (x26 : Int32) (x30 : Int32) (x31 : Int32) : Option ((gMem × Nat × Nat × Int32 × Int32) ⊕ ((gMem × Nat × Nat × Int32) ⊕ ((Nat ⊕ Int32) × gMem))) :=
  lp (fun (q : gMem × Nat × Nat × Int32 × Int32) => bb_L_law_950 Z q.1 q.2.1 q.2.2.1 x2 x3 x4 x5 x6 x7 x10 x11 x12 x19 x20 x21 x23 x24 x25 x26 q.2.2.2.1 q.2.2.2.2) (M, kc, kn, x30, x31)
noncomputable def bb_L_law_903 (Z : Nat → Nat) (M : gMem) (kc : Nat) (kn : Nat) (x2 : Option Nat) (x3 : Option Nat) (x4 : Int32) (x5 : Int32) (x6 : Int32) (x7 : Int32) (x10 : Option Nat) (x11 : Option Nat) (x12 : Option Nat) (x19 : Int32) (x20 : Int32) (x21 : Int32) (x23 : Int32) (x24 : Option Nat) (x25 : Int32) (x26 : Int32) (x30 : Option Nat) (x31 : Int32) (x32 : Int32) : Option ((gMem × Nat × Nat × Int32) ⊕ ((gMem × Nat × Nat × Int32 × Int32) ⊕ ((gMem × Nat × Nat × Int32) ⊕ ((Nat ⊕ Int32) × gMem)))) :=
  (if x31 ≤ x32 then oI (lp_L_law_950 Z M kc kn x2 x3 x4 x5 x6 x7 x10 x11 x12 x19 x20 x21 x23 x24 x25 x26 ((0 : Int32)) ((0 : Int32))) else dr x30 fun a248 => ck (mT M a248 = 20) <| ck (inb x32 (mL M a248)) <| dr x3 fun a252 => ck (mT M a252 = 10) <| ck (kc + 2 ≤ 600086 ∧ kn + 12 ≤ 7301442) <| bx (f_X11_fisher M a252 x26 ((mI M a248 x32.toNatClampNeg))) (fun e251 M251 => oI (oI (oI (some (.inl e251, M251))))) fun r251 M251 => dr x10 fun a258 => ck (mT M251 a258 = 28) <| ck (inb x26 (mL M251 a258)) <| dr ((mR M251 a258 x26.toNatClampNeg)) fun a261 => ck (mT M251 a261 = 20) <| ck (inb (mI M a248 x32.toNatClampNeg) (mL M251 a261)) <| (if r251 = (mI M251 a261 ((mI M a248 x32.toNatClampNeg)).toNatClampNeg) then some (.inl (M251, (kc + 2), (kn + 12), (x32 + (1 : Int32)))) else ck ((kc + 2) ≤ 600086 ∧ (kn + 12) ≤ 7301442) <| oI (oI (oI (some (.inr (0 : Int32), M251))))))
noncomputable def lp_L_law_903 (Z : Nat → Nat) (M : gMem) (kc : Nat) (kn : Nat) (x2 : Option Nat) (x3 : Option Nat) (x4 : Int32) (x5 : Int32) (x6 : Int32) (x7 : Int32) (x10 : Option Nat) (x11 : Option Nat) (x12 : Option Nat) (x19 : Int32) (x20 : Int32) (x21 : Int32) (x23 : Int32) (x24 : Option Nat) (x25 : Int32) (x26 : Int32) (x30 : Option Nat) (x31 : Int32) (x32 : Int32) : Option ((gMem × Nat × Nat × Int32 × Int32) ⊕ ((gMem × Nat × Nat × Int32) ⊕ ((Nat ⊕ Int32) × gMem))) :=
  lp (fun (q : gMem × Nat × Nat × Int32) => bb_L_law_903 Z q.1 q.2.1 q.2.2.1 x2 x3 x4 x5 x6 x7 x10 x11 x12 x19 x20 x21 x23 x24 x25 x26 x30 x31 q.2.2.2) (M, kc, kn, x32)
noncomputable def b_L_law_871 (Z : Nat → Nat) (M : gMem) (kc : Nat) (kn : Nat) : Option ((Nat ⊕ Int32) × gMem) :=
  ck (kc ≤ 600086 ∧ kn ≤ 7301442) <| some (.inr (0 : Int32), M)
noncomputable def b_L_law_828 (Z : Nat → Nat) (M : gMem) (kc : Nat) (kn : Nat) (x2 : Option Nat) (x3 : Option Nat) (x4 : Int32) (x5 : Int32) (x6 : Int32) (x7 : Int32) (x10 : Option Nat) (x11 : Option Nat) (x12 : Option Nat) (x19 : Int32) (x20 : Int32) (x21 : Int32) (x23 : Int32) (x24 : Option Nat) (x25 : Int32) (x26 : Int32) (x29 : Int32) : Option ((gMem × Nat × Nat × Int32 × Int32) ⊕ ((gMem × Nat × Nat × Int32) ⊕ ((Nat ⊕ Int32) × gMem))) :=
  (if x29 < 0 then oI (oI (b_L_law_871 Z M kc kn)) else (if (1 : Int32) < x29 then oI (oI (b_L_law_871 Z M kc kn)) else dr x3 fun a274 => ck (mT M a274 = 10) <| ck (kc + 2 ≤ 600086 ∧ kn + 12 ≤ 7301442) <| bx (f_X11_fisher M a274 x26 ((0 : Int32))) (fun e273 M273 => oI (oI (some (.inl e273, M273)))) fun r273 M273 => dr x10 fun a279 => ck (mT M273 a279 = 28) <| ck (inb x26 (mL M273 a279)) <| dr ((mR M273 a279 x26.toNatClampNeg)) fun a282 => ck (mT M273 a282 = 20) <| ck (inb (0 : Int32) (mL M273 a282)) <| (if r273 = ((mI M273 a282 ((0 : Int32)).toNatClampNeg) + x29) then ck (mT M273 a274 = 10) <| ck ((kc + 2) + 2 ≤ 600086 ∧ (kn + 12) + 12 ≤ 7301442) <| bx (f_X11_fisher M273 a274 x26 ((0 : Int32))) (fun e287 M287 => oI (oI (some (.inl e287, M287)))) fun r287 M287 => (if r287 ≤ (6 : Int32) then ck (((kc + 2) + 2) + 1 ≤ 600086 ∧ ((kn + 12) + 12) + 4 ≤ 7301442) <| lw (nW M287 20 ((4 : Int32)).toNatClampNeg) fun M293 => ck (mT M293 (mN M287) = 20) <| ck (inb (0 : Int32) (mL M293 (mN M287))) <| lw (wI M293 (mN M287) ((0 : Int32)).toNatClampNeg ((1 : Int32))) fun M296 => ck (inb (1 : Int32) (mL M296 (mN M287))) <| lw (wI M296 (mN M287) ((1 : Int32)).toNatClampNeg ((2 : Int32))) fun M299 => ck (inb (2 : Int32) (mL M299 (mN M287))) <| lw (wI M299 (mN M287) ((2 : Int32)).toNatClampNeg ((3 : Int32))) fun M302 => ck (inb (3 : Int32) (mL M302 (mN M287))) <| lw (wI M302 (mN M287) ((3 : Int32)).toNatClampNeg ((8 : Int32))) fun M305 => lp_L_law_903 Z M305 ((((kc + 2) + 2) + 1)) ((((kn + 12) + 12) + 4)) x2 x3 x4 x5 x6 x7 x10 x11 x12 x19 x20 x21 x23 x24 x25 x26 ((some (mN M287))) ((Int32.ofNat (mL M305 (mN M287)))) ((0 : Int32)) else oI (oI (b_L_law_871 Z M287 (((kc + 2) + 2)) (((kn + 12) + 12))))) else oI (oI (b_L_law_871 Z M273 ((kc + 2)) ((kn + 12)))))))
noncomputable def b_L_law_761 (Z : Nat → Nat) (M : gMem) (kc : Nat) (kn : Nat) (x2 : Option Nat) (x3 : Option Nat) (x4 : Int32) (x5 : Int32) (x6 : Int32) (x7 : Int32) (x10 : Option Nat) (x11 : Option Nat) (x12 : Option Nat) (x19 : Int32) (x20 : Int32) (x21 : Int32) (x23 : Int32) (x24 : Option Nat) (x25 : Int32) (x26 : Int32) (x27 : Int32) (x28 : Int32) (x29 : Int32) : Option ((gMem × Nat × Nat × Int32 × Int32) ⊕ ((gMem × Nat × Nat × Int32) ⊕ ((Nat ⊕ Int32) × gMem))) :=
  dr x3 fun a310 => ck (mT M a310 = 10) <| ck (kc + 2 ≤ 600086 ∧ kn + 12 ≤ 7301442) <| bx (f_X11_fisher M a310 x26 ((4 : Int32))) (fun e309 M309 => oI (oI (some (.inl e309, M309)))) fun r309 M309 => dr x10 fun a315 => ck (mT M309 a315 = 28) <| ck (inb x26 (mL M309 a315)) <| dr ((mR M309 a315 x26.toNatClampNeg)) fun a318 => ck (mT M309 a318 = 20) <| ck (inb (4 : Int32) (mL M309 a318)) <| ck (mT M309 a310 = 10) <| ck ((kc + 2) + 2 ≤ 600086 ∧ (kn + 12) + 12 ≤ 7301442) <| bx (f_X11_fisher M309 a310 x26 ((5 : Int32))) (fun e321 M321 => oI (oI (some (.inl e321, M321)))) fun r321 M321 => (if r309 = ((mI M309 a318 ((4 : Int32)).toNatClampNeg) + r321) then ck (mT M321 a310 = 10) <| ck (((kc + 2) + 2) + 2 ≤ 600086 ∧ ((kn + 12) + 12) + 12 ≤ 7301442) <| bx (f_X11_fisher M321 a310 x26 ((5 : Int32))) (fun e328 M328 => oI (oI (some (.inl e328, M328)))) fun r328 M328 => (if r328 < 0 then oI (oI (b_L_law_871 Z M328 ((((kc + 2) + 2) + 2)) ((((kn + 12) + 12) + 12)))) else (if x28 < 0 then oI (oI (b_L_law_871 Z M328 ((((kc + 2) + 2) + 2)) ((((kn + 12) + 12) + 12)))) else ck (mT M328 a315 = 28) <| ck (inb x26 (mL M328 a315)) <| dr ((mR M328 a315 x26.toNatClampNeg)) fun a339 => ck (mT M328 a339 = 20) <| ck (inb (3 : Int32) (mL M328 a339)) <| (if (mI M328 a339 ((3 : Int32)).toNatClampNeg) < x28 then oI (oI (b_L_law_871 Z M328 ((((kc + 2) + 2) + 2)) ((((kn + 12) + 12) + 12)))) else (if 0 ≤ x27 then b_L_law_828 Z M328 ((((kc + 2) + 2) + 2)) ((((kn + 12) + 12) + 12)) x2 x3 x4 x5 x6 x7 x10 x11 x12 x19 x20 x21 x23 x24 x25 x26 x29 else (if 0 < x28 then oI (oI (b_L_law_871 Z M328 ((((kc + 2) + 2) + 2)) ((((kn + 12) + 12) + 12)))) else (if 0 < x29 then oI (oI (b_L_law_871 Z M328 ((((kc + 2) + 2) + 2)) ((((kn + 12) + 12) + 12)))) else b_L_law_828 Z M328 ((((kc + 2) + 2) + 2)) ((((kn + 12) + 12) + 12)) x2 x3 x4 x5 x6 x7 x10 x11 x12 x19 x20 x21 x23 x24 x25 x26 x29)))))) else oI (oI (b_L_law_871 Z M321 (((kc + 2) + 2)) (((kn + 12) + 12)))))
noncomputable def bb_L_law_680 (Z : Nat → Nat) (M : gMem) (kc : Nat) (kn : Nat) (x2 : Option Nat) (x3 : Option Nat) (x4 : Int32) (x5 : Int32) (x6 : Int32) (x7 : Int32) (x10 : Option Nat) (x11 : Option Nat) (x12 : Option Nat) (x19 : Int32) (x20 : Int32) (x21 : Int32) (x23 : Int32) (x24 : Option Nat) (x25 : Int32) (x26 : Int32) : Option ((gMem × Nat × Nat × Int32 × Int32) ⊕ ((gMem × Nat × Nat × Int32) ⊕ ((Nat ⊕ Int32) × gMem))) :=
  (if x4 ≤ x26 then (if x25 = x23 then oI (lp_L_law_1009 Z M kc kn x2 x3 x4 x5 x6 x7 x10 x11 x12 x19 x20 x21 x23 x24 ((0 : Int32))) else ck (kc ≤ 600086 ∧ kn ≤ 7301442) <| oI (oI (some (.inr (0 : Int32), M)))) else dr x3 fun a353 => ck (mT M a353 = 10) <| ck (kc + 2 ≤ 600086 ∧ kn + 12 ≤ 7301442) <| bx (f_X11_fisher M a353 x26 ((6 : Int32))) (fun e352 M352 => oI (oI (some (.inl e352, M352)))) fun r352 M352 => ck (mT M352 a353 = 10) <| ck ((kc + 2) + 2 ≤ 600086 ∧ (kn + 12) + 12 ≤ 7301442) <| bx (f_X11_fisher M352 a353 x26 ((9 : Int32))) (fun e358 M358 => oI (oI (some (.inl e358, M358)))) fun r358 M358 => dr x10 fun a363 => ck (mT M358 a363 = 28) <| ck (inb x26 (mL M358 a363)) <| dr ((mR M358 a363 x26.toNatClampNeg)) fun a366 => ck (mT M358 a366 = 20) <| ck (inb (9 : Int32) (mL M358 a366)) <| ck (mT M358 a353 = 10) <| ck (((kc + 2) + 2) + 2 ≤ 600086 ∧ ((kn + 12) + 12) + 12 ≤ 7301442) <| bx (f_X11_fisher M358 a353 x26 ((7 : Int32))) (fun e369 M369 => oI (oI (some (.inl e369, M369)))) fun r369 M369 => ck (mT M369 a363 = 28) <| ck (inb x26 (mL M369 a363)) <| dr ((mR M369 a363 x26.toNatClampNeg)) fun a376 => ck (mT M369 a376 = 20) <| ck (inb (7 : Int32) (mL M369 a376)) <| ck (mT M369 a353 = 10) <| ck ((((kc + 2) + 2) + 2) + 2 ≤ 600086 ∧ (((kn + 12) + 12) + 12) + 12 ≤ 7301442) <| bx (f_X11_fisher M369 a353 x26 ((5 : Int32))) (fun e379 M379 => oI (oI (some (.inl e379, M379)))) fun r379 M379 => (if r352 < 0 then b_L_law_761 Z M379 (((((kc + 2) + 2) + 2) + 2)) (((((kn + 12) + 12) + 12) + 12)) x2 x3 x4 x5 x6 x7 x10 x11 x12 x19 x20 x21 x23 x24 ((x25 + r379)) x26 r352 ((r358 - (mI M358 a366 ((9 : Int32)).toNatClampNeg))) ((r369 - (mI M369 a376 ((7 : Int32)).toNatClampNeg))) else dr x24 fun a384 => ck (mT M379 a384 = 20) <| ck (inb r352 (mL M379 a384)) <| ck (inb r352 (mL M379 a384)) <| lw (wI M379 a384 r352.toNatClampNeg (((mI M379 a384 r352.toNatClampNeg) + (1 : Int32)))) fun M388 => b_L_law_761 Z M388 (((((kc + 2) + 2) + 2) + 2)) (((((kn + 12) + 12) + 12) + 12)) x2 x3 x4 x5 x6 x7 x10 x11 x12 x19 x20 x21 x23 x24 ((x25 + r379)) x26 r352 ((r358 - (mI M358 a366 ((9 : Int32)).toNatClampNeg))) ((r369 - (mI M369 a376 ((7 : Int32)).toNatClampNeg)))))
noncomputable def lp_L_law_680 (Z : Nat → Nat) (M : gMem) (kc : Nat) (kn : Nat) (x2 : Option Nat) (x3 : Option Nat) (x4 : Int32) (x5 : Int32) (x6 : Int32) (x7 : Int32) (x10 : Option Nat) (x11 : Option Nat) (x12 : Option Nat) (x19 : Int32) (x20 : Int32) (x21 : Int32) (x23 : Int32) (x24 : Option Nat) (x25 : Int32) (x26 : Int32) : Option ((gMem × Nat × Nat × Int32) ⊕ ((Nat ⊕ Int32) × gMem)) :=
  lp (fun (q : gMem × Nat × Nat × Int32 × Int32) => bb_L_law_680 Z q.1 q.2.1 q.2.2.1 x2 x3 x4 x5 x6 x7 x10 x11 x12 x19 x20 x21 x23 x24 q.2.2.2.1 q.2.2.2.2) (M, kc, kn, x25, x26)
noncomputable def b_L_law_666 (Z : Nat → Nat) (M : gMem) (kc : Nat) (kn : Nat) : Option ((Nat ⊕ Int32) × gMem) :=
  ck (kc ≤ 600086 ∧ kn ≤ 7301442) <| some (.inr (0 : Int32), M)
noncomputable def b_L_law_590 (Z : Nat → Nat) (M : gMem) (kc : Nat) (kn : Nat) : Option ((Nat ⊕ Int32) × gMem) :=
  ck (kc ≤ 600086 ∧ kn ≤ 7301442) <| some (.inr (0 : Int32), M)
noncomputable def b_L_law_576 (Z : Nat → Nat) (M : gMem) (kc : Nat) (kn : Nat) (x2 : Option Nat) (x3 : Option Nat) (x4 : Int32) (x5 : Int32) (x6 : Int32) (x7 : Int32) (x10 : Option Nat) (x11 : Option Nat) (x12 : Option Nat) (x13 : Int32) (x14 : Int32) (x18 : Option Nat) (x19 : Int32) (x20 : Int32) (x21 : Int32) (s0 : Int32) (s1 : Int32) : Option ((gMem × Nat × Nat × Int32) ⊕ ((Nat ⊕ Int32) × gMem)) :=
  (if s0 = s1 then dr x3 fun a394 => ck (mT M a394 = 10) <| ck (kc + 1 ≤ 600086 ∧ kn + 6 ≤ 7301442) <| bx (f_X11_blame M a394 x19) (fun e393 M393 => oI (some (.inl e393, M393))) fun r393 M393 => (if r393 < x4 then ck (mT M393 a394 = 10) <| ck ((kc + 1) + 1 ≤ 600086 ∧ (kn + 6) + 6 ≤ 7301442) <| bx (f_X11_pass Z M393 a394 ((1 : Int32))) (fun e398 M398 => oI (some (.inl e398, M398))) fun r398 M398 => ck (mT M398 a394 = 10) <| ck (((kc + 1) + 1) + 1 ≤ 600086 ∧ ((kn + 6) + 6) + 6 ≤ 7301442) <| bx (f_X11_count M398 a394 ((0 : Int32))) (fun e402 M402 => oI (some (.inl e402, M402))) fun r402 M402 => (if r402 = (x13 + (1 : Int32)) then (if r398 < 0 then oI (b_L_law_666 Z M402 ((((kc + 1) + 1) + 1)) ((((kn + 6) + 6) + 6))) else ck (mT M402 a394 = 10) <| ck ((((kc + 1) + 1) + 1) + 1 ≤ 600086 ∧ (((kn + 6) + 6) + 6) + 6 ≤ 7301442) <| bx (f_X11_count M402 a394 ((6 : Int32))) (fun e408 M408 => oI (some (.inl e408, M408))) fun r408 M408 => (if r408 = (x14 + r398) then ck (mT M408 a394 = 10) <| ck (((((kc + 1) + 1) + 1) + 1) + 1 ≤ 600086 ∧ ((((kn + 6) + 6) + 6) + 6) + 6 ≤ 7301442) <| bx (f_X11_count M408 a394 ((6 : Int32))) (fun e413 M413 => oI (some (.inl e413, M413))) fun r413 M413 => dr x18 fun a417 => ck (mT M413 a417 = 20) <| ck (inb (0 : Int32) (mL M413 a417)) <| (if r413 = (mI M413 a417 ((0 : Int32)).toNatClampNeg) then ck (mT M413 a394 = 10) <| ck ((((((kc + 1) + 1) + 1) + 1) + 1) + 1 ≤ 600086 ∧ (((((kn + 6) + 6) + 6) + 6) + 6) + 6 ≤ 7301442) <| bx (f_X11_count M413 a394 ((5 : Int32))) (fun e421 M421 => oI (some (.inl e421, M421))) fun r421 M421 => ck (mT M421 a417 = 20) <| ck (inb (1 : Int32) (mL M421 a417)) <| (if r421 = (mI M421 a417 ((1 : Int32)).toNatClampNeg) then ck (mT M421 a394 = 10) <| ck (((((((kc + 1) + 1) + 1) + 1) + 1) + 1) + 0 ≤ 600086 ∧ ((((((kn + 6) + 6) + 6) + 6) + 6) + 6) + 0 ≤ 7301442) <| bd (f_X11_gap M421 a394) fun r428 M428 => ck (mT M428 a417 = 20) <| ck (inb (2 : Int32) (mL M428 a417)) <| (if r428 = (mI M428 a417 ((2 : Int32)).toNatClampNeg) then ck (¬ x5 < 0) <| ck (x5.toNatClampNeg ≤ 8) <| ck ((((((((kc + 1) + 1) + 1) + 1) + 1) + 1) + 0) + 1 ≤ 600086 ∧ (((((((kn + 6) + 6) + 6) + 6) + 6) + 6) + 0) + 8 ≤ 7301442) <| lw (nW M428 20 x5.toNatClampNeg) fun M436 => lp_L_law_680 Z M436 (((((((((kc + 1) + 1) + 1) + 1) + 1) + 1) + 0) + 1)) (((((((((kn + 6) + 6) + 6) + 6) + 6) + 6) + 0) + 8)) x2 x3 x4 x5 x6 x7 x10 x11 x12 x19 x20 x21 r398 ((some (mN M428))) ((0 : Int32)) ((0 : Int32)) else oI (b_L_law_666 Z M428 ((((((((kc + 1) + 1) + 1) + 1) + 1) + 1) + 0)) ((((((((kn + 6) + 6) + 6) + 6) + 6) + 6) + 0)))) else oI (b_L_law_666 Z M421 (((((((kc + 1) + 1) + 1) + 1) + 1) + 1)) (((((((kn + 6) + 6) + 6) + 6) + 6) + 6)))) else oI (b_L_law_666 Z M413 ((((((kc + 1) + 1) + 1) + 1) + 1)) ((((((kn + 6) + 6) + 6) + 6) + 6)))) else oI (b_L_law_666 Z M408 (((((kc + 1) + 1) + 1) + 1)) (((((kn + 6) + 6) + 6) + 6))))) else oI (b_L_law_666 Z M402 ((((kc + 1) + 1) + 1)) ((((kn + 6) + 6) + 6)))) else oI (b_L_law_590 Z M393 ((kc + 1)) ((kn + 6)))) else oI (b_L_law_590 Z M kc kn))
noncomputable def b_L_law_561 (Z : Nat → Nat) (M : gMem) (kc : Nat) (kn : Nat) (x2 : Option Nat) (x3 : Option Nat) (x4 : Int32) (x5 : Int32) (x6 : Int32) (x7 : Int32) (x10 : Option Nat) (x11 : Option Nat) (x12 : Option Nat) (x13 : Int32) (x14 : Int32) (x18 : Option Nat) (x19 : Int32) (x20 : Int32) (x21 : Int32) (s0 : Int32) : Option ((gMem × Nat × Nat × Int32) ⊕ ((Nat ⊕ Int32) × gMem)) :=
  dr x11 fun a439 => ck (mT M a439 = 28) <| ck (inb x19 (mL M a439)) <| dr ((mR M a439 x19.toNatClampNeg)) fun a442 => ck (mT M a442 = 20) <| ck (inb (0 : Int32) (mL M a442)) <| (if (mI M a442 ((0 : Int32)).toNatClampNeg) = 0 then b_L_law_576 Z M kc kn x2 x3 x4 x5 x6 x7 x10 x11 x12 x13 x14 x18 x19 x20 x21 s0 ((1 : Int32)) else b_L_law_576 Z M kc kn x2 x3 x4 x5 x6 x7 x10 x11 x12 x13 x14 x18 x19 x20 x21 s0 ((0 : Int32)))
noncomputable def b_L_law_425 (Z : Nat → Nat) (M : gMem) (kc : Nat) (kn : Nat) : Option ((Nat ⊕ Int32) × gMem) :=
  ck (kc ≤ 600086 ∧ kn ≤ 7301442) <| some (.inr (0 : Int32), M)
noncomputable def bb_L_law_386 (Z : Nat → Nat) (M : gMem) (kc : Nat) (kn : Nat) (x2 : Option Nat) (x3 : Option Nat) (x4 : Int32) (x5 : Int32) (x6 : Int32) (x7 : Int32) (x8 : Int32) (x9 : Int32) (x10 : Option Nat) (x11 : Option Nat) (x12 : Option Nat) (x13 : Int32) (x14 : Int32) (x15 : Option Nat) (x16 : Int32) : Option ((gMem × Nat × Nat × Int32) ⊕ ((gMem × Nat × Nat × Int32) ⊕ ((Nat ⊕ Int32) × gMem))) :=
  (if x4 ≤ x16 then dr x3 fun a447 => ck (mT M a447 = 10) <| ck (kc + 0 ≤ 600086 ∧ kn + 0 ≤ 7301442) <| bd (f_X11_digest M a447) fun r446 M446 => ck ((kc + 0) + 1 ≤ 600086 ∧ (kn + 0) + 3 ≤ 7301442) <| lw (nW M446 20 ((3 : Int32)).toNatClampNeg) fun M451 => ck (mT M451 a447 = 10) <| ck (((kc + 0) + 1) + 2 ≤ 600086 ∧ ((kn + 0) + 3) + 12 ≤ 7301442) <| bx (f_X11_foresee Z M451 a447 ((1 : Int32)) ((0 : Int32))) (fun e452 M452 => oI (oI (some (.inl e452, M452)))) fun r452 M452 => ck (mT M452 (mN M446) = 20) <| ck (inb (0 : Int32) (mL M452 (mN M446))) <| lw (wI M452 (mN M446) ((0 : Int32)).toNatClampNeg r452) fun M459 => ck (mT M459 a447 = 10) <| ck ((((kc + 0) + 1) + 2) + 2 ≤ 600086 ∧ (((kn + 0) + 3) + 12) + 12 ≤ 7301442) <| bx (f_X11_foresee Z M459 a447 ((1 : Int32)) ((1 : Int32))) (fun e461 M461 => oI (oI (some (.inl e461, M461)))) fun r461 M461 => ck (mT M461 (mN M446) = 20) <| ck (inb (1 : Int32) (mL M461 (mN M446))) <| lw (wI M461 (mN M446) ((1 : Int32)).toNatClampNeg r461) fun M468 => ck (mT M468 a447 = 10) <| ck (((((kc + 0) + 1) + 2) + 2) + 2 ≤ 600086 ∧ ((((kn + 0) + 3) + 12) + 12) + 12 ≤ 7301442) <| bx (f_X11_foresee Z M468 a447 ((1 : Int32)) ((2 : Int32))) (fun e470 M470 => oI (oI (some (.inl e470, M470)))) fun r470 M470 => ck (mT M470 (mN M446) = 20) <| ck (inb (2 : Int32) (mL M470 (mN M446))) <| lw (wI M470 (mN M446) ((2 : Int32)).toNatClampNeg r470) fun M477 => ck ((((((kc + 0) + 1) + 2) + 2) + 2) + 0 ≤ 600086 ∧ (((((kn + 0) + 3) + 12) + 12) + 12) + 0 ≤ 7301442) <| bd (f_L_below M477 ((x8 >>> ((4 : Int32) &&& 31))) x5) fun r479 M479 => ck (mT M479 a447 = 10) <| ck (((((((kc + 0) + 1) + 2) + 2) + 2) + 0) + 1 ≤ 600086 ∧ ((((((kn + 0) + 3) + 12) + 12) + 12) + 0) + 6 ≤ 7301442) <| bx (f_X11_empty Z M479 a447 r479) (fun e481 M481 => oI (oI (some (.inl e481, M481)))) fun r481 M481 => ck (mT M481 a447 = 10) <| ck ((((((((kc + 0) + 1) + 2) + 2) + 2) + 0) + 1) + 2 ≤ 600086 ∧ (((((((kn + 0) + 3) + 12) + 12) + 12) + 0) + 6) + 12 ≤ 7301442) <| bx (f_X11_pays Z M481 a447 x9 ((1 : Int32))) (fun e486 M486 => oI (oI (some (.inl e486, M486)))) fun r486 M486 => ck (((((((((kc + 0) + 1) + 2) + 2) + 2) + 0) + 1) + 2) + 0 ≤ 600086 ∧ ((((((((kn + 0) + 3) + 12) + 12) + 12) + 0) + 6) + 12) + 0 ≤ 7301442) <| bd (f_L_below M486 ((x8 >>> ((6 : Int32) &&& 31))) ((10 : Int32))) fun r491 M491 => ck (mT M491 a447 = 10) <| ck ((((((((((kc + 0) + 1) + 2) + 2) + 2) + 0) + 1) + 2) + 0) + 2 ≤ 600086 ∧ (((((((((kn + 0) + 3) + 12) + 12) + 12) + 0) + 6) + 12) + 0) + 12 ≤ 7301442) <| bx (f_X11_advise Z M491 a447 x9 (((1 : Int32) + r491))) (fun e493 M493 => oI (oI (some (.inl e493, M493)))) fun r493 M493 => ck (mT M493 a447 = 10) <| ck (((((((((((kc + 0) + 1) + 2) + 2) + 2) + 0) + 1) + 2) + 0) + 2) + 0 ≤ 600086 ∧ ((((((((((kn + 0) + 3) + 12) + 12) + 12) + 0) + 6) + 12) + 0) + 12) + 0 ≤ 7301442) <| bd (f_X11_digest M493 a447) fun r498 M498 => (if (lg_cmp r498 r446) = 0 then (if r493 < (1 : Int32) then oI (oI (b_L_law_590 Z M498 ((((((((((((kc + 0) + 1) + 2) + 2) + 2) + 0) + 1) + 2) + 0) + 2) + 0)) ((((((((((((kn + 0) + 3) + 12) + 12) + 12) + 0) + 6) + 12) + 0) + 12) + 0)))) else (if (5 : Int32) < r493 then oI (oI (b_L_law_590 Z M498 ((((((((((((kc + 0) + 1) + 2) + 2) + 2) + 0) + 1) + 2) + 0) + 2) + 0)) ((((((((((((kn + 0) + 3) + 12) + 12) + 12) + 0) + 6) + 12) + 0) + 12) + 0)))) else (if r481 = 0 then oI (b_L_law_561 Z M498 ((((((((((((kc + 0) + 1) + 2) + 2) + 2) + 0) + 1) + 2) + 0) + 2) + 0)) ((((((((((((kn + 0) + 3) + 12) + 12) + 12) + 0) + 6) + 12) + 0) + 12) + 0)) x2 x3 x4 x5 x6 x7 x10 x11 x12 x13 x14 ((some (mN M446))) r479 r481 r486 ((1 : Int32))) else oI (b_L_law_561 Z M498 ((((((((((((kc + 0) + 1) + 2) + 2) + 2) + 0) + 1) + 2) + 0) + 2) + 0)) ((((((((((((kn + 0) + 3) + 12) + 12) + 12) + 0) + 6) + 12) + 0) + 12) + 0)) x2 x3 x4 x5 x6 x7 x10 x11 x12 x13 x14 ((some (mN M446))) r479 r481 r486 ((0 : Int32)))))) else oI (oI (b_L_law_590 Z M498 ((((((((((((kc + 0) + 1) + 2) + 2) + 2) + 0) + 1) + 2) + 0) + 2) + 0)) ((((((((((((kn + 0) + 3) + 12) + 12) + 12) + 0) + 6) + 12) + 0) + 12) + 0))))) else dr x3 fun a510 => ck (mT M a510 = 10) <| ck (kc + 1 ≤ 600086 ∧ kn + 6 ≤ 7301442) <| bx (f_X11_lot M a510 x16) (fun e509 M509 => oI (oI (some (.inl e509, M509)))) fun r509 M509 => (if r509 < 0 then oI (oI (b_L_law_425 Z M509 ((kc + 1)) ((kn + 6)))) else ck (mT M509 a510 = 10) <| ck ((kc + 1) + 1 ≤ 600086 ∧ (kn + 6) + 6 ≤ 7301442) <| bx (f_X11_lot M509 a510 x16) (fun e517 M517 => oI (oI (some (.inl e517, M517)))) fun r517 M517 => (if x4 ≤ r517 then oI (oI (b_L_law_425 Z M517 (((kc + 1) + 1)) (((kn + 6) + 6)))) else ck (mT M517 a510 = 10) <| ck (((kc + 1) + 1) + 1 ≤ 600086 ∧ ((kn + 6) + 6) + 6 ≤ 7301442) <| bx (f_X11_lot M517 a510 x16) (fun e524 M524 => oI (oI (some (.inl e524, M524)))) fun r524 M524 => dr x15 fun a529 => ck (mT M524 a529 = 29) <| ck (inb r524 (mL M524 a529)) <| (if (mI M524 a529 r524.toNatClampNeg) = 0 then ck (mT M524 a510 = 10) <| ck ((((kc + 1) + 1) + 1) + 1 ≤ 600086 ∧ (((kn + 6) + 6) + 6) + 6 ≤ 7301442) <| bx (f_X11_lot M524 a510 x16) (fun e532 M532 => oI (oI (some (.inl e532, M532)))) fun r532 M532 => ck (mT M532 a529 = 29) <| ck (inb r532 (mL M532 a529)) <| lw (wI M532 a529 r532.toNatClampNeg (vp_nar .boolean ((1 : Int32)))) fun M539 => some (.inl (M539, ((((kc + 1) + 1) + 1) + 1), ((((kn + 6) + 6) + 6) + 6), (x16 + (1 : Int32)))) else oI (oI (b_L_law_425 Z M524 ((((kc + 1) + 1) + 1)) ((((kn + 6) + 6) + 6))))))))
noncomputable def lp_L_law_386 (Z : Nat → Nat) (M : gMem) (kc : Nat) (kn : Nat) (x2 : Option Nat) (x3 : Option Nat) (x4 : Int32) (x5 : Int32) (x6 : Int32) (x7 : Int32) (x8 : Int32) (x9 : Int32) (x10 : Option Nat) (x11 : Option Nat) (x12 : Option Nat) (x13 : Int32) (x14 : Int32) (x15 : Option Nat) (x16 : Int32) : Option ((gMem × Nat × Nat × Int32) ⊕ ((Nat ⊕ Int32) × gMem)) :=
  lp (fun (q : gMem × Nat × Nat × Int32) => bb_L_law_386 Z q.1 q.2.1 q.2.2.1 x2 x3 x4 x5 x6 x7 x8 x9 x10 x11 x12 x13 x14 x15 q.2.2.2) (M, kc, kn, x16)
noncomputable def bb_L_law_327 (Z : Nat → Nat) (M : gMem) (kc : Nat) (kn : Nat) (x2 : Option Nat) (x3 : Option Nat) (x4 : Int32) (x5 : Int32) (x6 : Int32) (x7 : Int32) (x8 : Int32) (x9 : Int32) (x10 : Option Nat) (x11 : Option Nat) (x12 : Option Nat) (x13 : Int32) (x14 : Int32) : Option ((gMem × Nat × Nat × Int32) ⊕ ((gMem × Nat × Nat × Int32) ⊕ ((gMem × Nat × Nat × Int32) ⊕ ((Nat ⊕ Int32) × gMem)))) :=
  (if (7 : Int32) ≤ x14 then oI (some (.inl (M, kc, kn, (x13 + (1 : Int32))))) else dr x12 fun a544 => ck (mT M a544 = 28) <| ck (inb x13 (mL M a544)) <| dr x3 fun a548 => ck (mT M a548 = 10) <| ck (kc + 1 ≤ 600086 ∧ kn + 6 ≤ 7301442) <| bx (f_X11_pact M a548 x13 x14) (fun e547 M547 => oI (oI (oI (some (.inl e547, M547))))) fun r547 M547 => dr ((mR M a544 x13.toNatClampNeg)) fun a554 => ck (mT M547 a554 = 20) <| ck (inb x14 (mL M547 a554)) <| lw (wI M547 a554 x14.toNatClampNeg r547) fun M557 => some (.inl (M557, (kc + 1), (kn + 6), (x14 + (1 : Int32)))))
noncomputable def lp_L_law_327 (Z : Nat → Nat) (M : gMem) (kc : Nat) (kn : Nat) (x2 : Option Nat) (x3 : Option Nat) (x4 : Int32) (x5 : Int32) (x6 : Int32) (x7 : Int32) (x8 : Int32) (x9 : Int32) (x10 : Option Nat) (x11 : Option Nat) (x12 : Option Nat) (x13 : Int32) (x14 : Int32) : Option ((gMem × Nat × Nat × Int32) ⊕ ((gMem × Nat × Nat × Int32) ⊕ ((Nat ⊕ Int32) × gMem))) :=
  lp (fun (q : gMem × Nat × Nat × Int32) => bb_L_law_327 Z q.1 q.2.1 q.2.2.1 x2 x3 x4 x5 x6 x7 x8 x9 x10 x11 x12 x13 q.2.2.2) (M, kc, kn, x14)
noncomputable def bb_L_law_317 (Z : Nat → Nat) (M : gMem) (kc : Nat) (kn : Nat) (x2 : Option Nat) (x3 : Option Nat) (x4 : Int32) (x5 : Int32) (x6 : Int32) (x7 : Int32) (x8 : Int32) (x9 : Int32) (x10 : Option Nat) (x11 : Option Nat) (x12 : Option Nat) (x13 : Int32) : Option ((gMem × Nat × Nat × Int32) ⊕ ((gMem × Nat × Nat × Int32) ⊕ ((Nat ⊕ Int32) × gMem))) :=
  (if x6 ≤ x13 then dr x3 fun a560 => ck (mT M a560 = 10) <| ck (kc + 1 ≤ 600086 ∧ kn + 6 ≤ 7301442) <| bx (f_X11_count M a560 ((0 : Int32))) (fun e559 M559 => oI (oI (some (.inl e559, M559)))) fun r559 M559 => ck (mT M559 a560 = 10) <| ck ((kc + 1) + 1 ≤ 600086 ∧ (kn + 6) + 6 ≤ 7301442) <| bx (f_X11_count M559 a560 ((6 : Int32))) (fun e565 M565 => oI (oI (some (.inl e565, M565)))) fun r565 M565 => ck (¬ x4 < 0) <| ck (x4.toNatClampNeg ≤ 8) <| ck (((kc + 1) + 1) + 1 ≤ 600086 ∧ ((kn + 6) + 6) + 8 ≤ 7301442) <| lw (nW M565 29 x4.toNatClampNeg) fun M573 => oI (lp_L_law_386 Z M573 ((((kc + 1) + 1) + 1)) ((((kn + 6) + 6) + 8)) x2 x3 x4 x5 x6 x7 x8 x9 x10 x11 x12 r559 r565 ((some (mN M565))) ((0 : Int32))) else lp_L_law_327 Z M kc kn x2 x3 x4 x5 x6 x7 x8 x9 x10 x11 x12 x13 ((0 : Int32)))
noncomputable def lp_L_law_317 (Z : Nat → Nat) (M : gMem) (kc : Nat) (kn : Nat) (x2 : Option Nat) (x3 : Option Nat) (x4 : Int32) (x5 : Int32) (x6 : Int32) (x7 : Int32) (x8 : Int32) (x9 : Int32) (x10 : Option Nat) (x11 : Option Nat) (x12 : Option Nat) (x13 : Int32) : Option ((gMem × Nat × Nat × Int32) ⊕ ((Nat ⊕ Int32) × gMem)) :=
  lp (fun (q : gMem × Nat × Nat × Int32) => bb_L_law_317 Z q.1 q.2.1 q.2.2.1 x2 x3 x4 x5 x6 x7 x8 x9 x10 x11 x12 q.2.2.2) (M, kc, kn, x13)
noncomputable def bb_L_law_269 (Z : Nat → Nat) (M : gMem) (kc : Nat) (kn : Nat) (x2 : Option Nat) (x3 : Option Nat) (x4 : Int32) (x5 : Int32) (x6 : Int32) (x7 : Int32) (x8 : Int32) (x9 : Int32) (x10 : Option Nat) (x11 : Option Nat) (x12 : Int32) (x13 : Int32) : Option ((gMem × Nat × Nat × Int32) ⊕ ((gMem × Nat × Nat × Int32) ⊕ ((gMem × Nat × Nat × Int32) ⊕ ((Nat ⊕ Int32) × gMem)))) :=
  (if (9 : Int32) ≤ x13 then oI (some (.inl (M, kc, kn, (x12 + (1 : Int32))))) else dr x11 fun a576 => ck (mT M a576 = 28) <| ck (inb x12 (mL M a576)) <| dr x3 fun a580 => ck (mT M a580 = 10) <| ck (kc + 2 ≤ 600086 ∧ kn + 12 ≤ 7301442) <| bx (f_X11_ground M a580 x12 x13) (fun e579 M579 => oI (oI (oI (some (.inl e579, M579))))) fun r579 M579 => dr ((mR M a576 x12.toNatClampNeg)) fun a586 => ck (mT M579 a586 = 20) <| ck (inb x13 (mL M579 a586)) <| lw (wI M579 a586 x13.toNatClampNeg r579) fun M589 => some (.inl (M589, (kc + 2), (kn + 12), (x13 + (1 : Int32)))))
noncomputable def lp_L_law_269 (Z : Nat → Nat) (M : gMem) (kc : Nat) (kn : Nat) (x2 : Option Nat) (x3 : Option Nat) (x4 : Int32) (x5 : Int32) (x6 : Int32) (x7 : Int32) (x8 : Int32) (x9 : Int32) (x10 : Option Nat) (x11 : Option Nat) (x12 : Int32) (x13 : Int32) : Option ((gMem × Nat × Nat × Int32) ⊕ ((gMem × Nat × Nat × Int32) ⊕ ((Nat ⊕ Int32) × gMem))) :=
  lp (fun (q : gMem × Nat × Nat × Int32) => bb_L_law_269 Z q.1 q.2.1 q.2.2.1 x2 x3 x4 x5 x6 x7 x8 x9 x10 x11 x12 q.2.2.2) (M, kc, kn, x13)
noncomputable def bb_L_law_259 (Z : Nat → Nat) (M : gMem) (kc : Nat) (kn : Nat) (x2 : Option Nat) (x3 : Option Nat) (x4 : Int32) (x5 : Int32) (x6 : Int32) (x7 : Int32) (x8 : Int32) (x9 : Int32) (x10 : Option Nat) (x11 : Option Nat) (x12 : Int32) : Option ((gMem × Nat × Nat × Int32) ⊕ ((gMem × Nat × Nat × Int32) ⊕ ((Nat ⊕ Int32) × gMem))) :=
  (if x5 ≤ x12 then ck (¬ x6 < 0) <| ck (x6.toNatClampNeg ≤ 8) <| ck (kc + 9 ≤ 600086 ∧ kn + 64 ≤ 7301442) <| lw (mnM M x6.toNatClampNeg ((7 : Int32)).toNatClampNeg) fun M594 => oI (lp_L_law_317 Z M594 ((kc + 9)) ((kn + 64)) x2 x3 x4 x5 x6 x7 x8 x9 x10 x11 ((some (mN M))) ((0 : Int32))) else lp_L_law_269 Z M kc kn x2 x3 x4 x5 x6 x7 x8 x9 x10 x11 x12 ((0 : Int32)))
noncomputable def lp_L_law_259 (Z : Nat → Nat) (M : gMem) (kc : Nat) (kn : Nat) (x2 : Option Nat) (x3 : Option Nat) (x4 : Int32) (x5 : Int32) (x6 : Int32) (x7 : Int32) (x8 : Int32) (x9 : Int32) (x10 : Option Nat) (x11 : Option Nat) (x12 : Int32) : Option ((gMem × Nat × Nat × Int32) ⊕ ((Nat ⊕ Int32) × gMem)) :=
  lp (fun (q : gMem × Nat × Nat × Int32) => bb_L_law_259 Z q.1 q.2.1 q.2.2.1 x2 x3 x4 x5 x6 x7 x8 x9 x10 x11 q.2.2.2) (M, kc, kn, x12)
noncomputable def bb_L_law_211 (Z : Nat → Nat) (M : gMem) (kc : Nat) (kn : Nat) (x2 : Option Nat) (x3 : Option Nat) (x4 : Int32) (x5 : Int32) (x6 : Int32) (x7 : Int32) (x8 : Int32) (x9 : Int32) (x10 : Option Nat) (x11 : Int32) (x12 : Int32) : Option ((gMem × Nat × Nat × Int32) ⊕ ((gMem × Nat × Nat × Int32) ⊕ ((gMem × Nat × Nat × Int32) ⊕ ((Nat ⊕ Int32) × gMem)))) :=
  (if (10 : Int32) ≤ x12 then oI (some (.inl (M, kc, kn, (x11 + (1 : Int32))))) else dr x10 fun a597 => ck (mT M a597 = 28) <| ck (inb x11 (mL M a597)) <| dr x3 fun a601 => ck (mT M a601 = 10) <| ck (kc + 2 ≤ 600086 ∧ kn + 12 ≤ 7301442) <| bx (f_X11_fisher M a601 x11 x12) (fun e600 M600 => oI (oI (oI (some (.inl e600, M600))))) fun r600 M600 => dr ((mR M a597 x11.toNatClampNeg)) fun a607 => ck (mT M600 a607 = 20) <| ck (inb x12 (mL M600 a607)) <| lw (wI M600 a607 x12.toNatClampNeg r600) fun M610 => some (.inl (M610, (kc + 2), (kn + 12), (x12 + (1 : Int32)))))
noncomputable def lp_L_law_211 (Z : Nat → Nat) (M : gMem) (kc : Nat) (kn : Nat) (x2 : Option Nat) (x3 : Option Nat) (x4 : Int32) (x5 : Int32) (x6 : Int32) (x7 : Int32) (x8 : Int32) (x9 : Int32) (x10 : Option Nat) (x11 : Int32) (x12 : Int32) : Option ((gMem × Nat × Nat × Int32) ⊕ ((gMem × Nat × Nat × Int32) ⊕ ((Nat ⊕ Int32) × gMem))) :=
  lp (fun (q : gMem × Nat × Nat × Int32) => bb_L_law_211 Z q.1 q.2.1 q.2.2.1 x2 x3 x4 x5 x6 x7 x8 x9 x10 x11 q.2.2.2) (M, kc, kn, x12)
noncomputable def bb_L_law_201 (Z : Nat → Nat) (M : gMem) (kc : Nat) (kn : Nat) (x2 : Option Nat) (x3 : Option Nat) (x4 : Int32) (x5 : Int32) (x6 : Int32) (x7 : Int32) (x8 : Int32) (x9 : Int32) (x10 : Option Nat) (x11 : Int32) : Option ((gMem × Nat × Nat × Int32) ⊕ ((gMem × Nat × Nat × Int32) ⊕ ((Nat ⊕ Int32) × gMem))) :=
  (if x4 ≤ x11 then ck (¬ x5 < 0) <| ck (x5.toNatClampNeg ≤ 8) <| ck (kc + 9 ≤ 600086 ∧ kn + 80 ≤ 7301442) <| lw (mnM M x5.toNatClampNeg ((9 : Int32)).toNatClampNeg) fun M615 => oI (lp_L_law_259 Z M615 ((kc + 9)) ((kn + 80)) x2 x3 x4 x5 x6 x7 x8 x9 x10 ((some (mN M))) ((0 : Int32))) else lp_L_law_211 Z M kc kn x2 x3 x4 x5 x6 x7 x8 x9 x10 x11 ((0 : Int32)))
noncomputable def lp_L_law_201 (Z : Nat → Nat) (M : gMem) (kc : Nat) (kn : Nat) (x2 : Option Nat) (x3 : Option Nat) (x4 : Int32) (x5 : Int32) (x6 : Int32) (x7 : Int32) (x8 : Int32) (x9 : Int32) (x10 : Option Nat) (x11 : Int32) : Option ((gMem × Nat × Nat × Int32) ⊕ ((Nat ⊕ Int32) × gMem)) :=
  lp (fun (q : gMem × Nat × Nat × Int32) => bb_L_law_201 Z q.1 q.2.1 q.2.2.1 x2 x3 x4 x5 x6 x7 x8 x9 x10 q.2.2.2) (M, kc, kn, x11)
noncomputable def b_L_law_188 (Z : Nat → Nat) (M : gMem) (kc : Nat) (kn : Nat) (x2 : Option Nat) (x3 : Option Nat) (x4 : Int32) (x5 : Int32) (x6 : Int32) (x7 : Int32) (x8 : Int32) (x9 : Int32) : Option ((gMem × Nat × Nat × Int32) ⊕ ((Nat ⊕ Int32) × gMem)) :=
  ck (¬ x4 < 0) <| ck (x4.toNatClampNeg ≤ 8) <| ck (kc + 9 ≤ 600086 ∧ kn + 88 ≤ 7301442) <| lw (mnM M x4.toNatClampNeg ((10 : Int32)).toNatClampNeg) fun M620 => lp_L_law_201 Z M620 ((kc + 9)) ((kn + 88)) x2 x3 x4 x5 x6 x7 x8 x9 ((some (mN M))) ((0 : Int32))
noncomputable def b_L_law_186 (Z : Nat → Nat) (M : gMem) (kc : Nat) (kn : Nat) : Option ((Nat ⊕ Int32) × gMem) :=
  ck (kc ≤ 600086 ∧ kn ≤ 7301442) <| some (.inr (0 : Int32), M)
noncomputable def b_L_law_183 (Z : Nat → Nat) (M : gMem) (kc : Nat) (kn : Nat) (x2 : Option Nat) (x3 : Option Nat) (x4 : Int32) (x5 : Int32) (x6 : Int32) (x7 : Int32) (x8 : Int32) (x9 : Int32) (s0 : Int32) (s1 : Int32) : Option ((gMem × Nat × Nat × Int32) ⊕ ((Nat ⊕ Int32) × gMem)) :=
  (if s0 = s1 then b_L_law_188 Z M kc kn x2 x3 x4 x5 x6 x7 x8 x9 else oI (b_L_law_186 Z M kc kn))
noncomputable def b_L_law_161 (Z : Nat → Nat) (M : gMem) (kc : Nat) (kn : Nat) (x2 : Option Nat) (x3 : Option Nat) (x4 : Int32) (x5 : Int32) (x6 : Int32) (x7 : Int32) (x8 : Int32) (x9 : Int32) (x11 : Int32) (s0 : Int32) (s1 : Int32) (s2 : Int32) : Option ((gMem × Nat × Nat × Int32) ⊕ ((Nat ⊕ Int32) × gMem)) :=
  (if s0 = (s1 + s2) then dr x3 fun a625 => ck (mT M a625 = 10) <| ck (kc + 2 ≤ 600086 ∧ kn + 12 ≤ 7301442) <| bx (f_X11_fisher M a625 x9 ((8 : Int32))) (fun e624 M624 => oI (some (.inl e624, M624))) fun r624 M624 => (if x11 = 0 then b_L_law_183 Z M624 ((kc + 2)) ((kn + 12)) x2 x3 x4 x5 x6 x7 x8 x9 r624 ((0 : Int32)) else b_L_law_183 Z M624 ((kc + 2)) ((kn + 12)) x2 x3 x4 x5 x6 x7 x8 x9 r624 ((1 : Int32))) else oI (b_L_law_186 Z M kc kn))
noncomputable def b_L_law_139 (Z : Nat → Nat) (M : gMem) (kc : Nat) (kn : Nat) (x2 : Option Nat) (x3 : Option Nat) (x4 : Int32) (x5 : Int32) (x6 : Int32) (x7 : Int32) (x8 : Int32) (x9 : Int32) (x10 : Int32) (s0 : Int32) : Option ((gMem × Nat × Nat × Int32) ⊕ ((Nat ⊕ Int32) × gMem)) :=
  dr x3 fun a630 => ck (mT M a630 = 10) <| ck (kc + 1 ≤ 600086 ∧ kn + 6 ≤ 7301442) <| bx (f_X11_cheat M a630 x9 s0) (fun e629 M629 => oI (some (.inl e629, M629))) fun r629 M629 => (if s0 = 0 then b_L_law_161 Z M629 ((kc + 1)) ((kn + 6)) x2 x3 x4 x5 x6 x7 x8 x9 s0 r629 x10 ((0 : Int32)) else b_L_law_161 Z M629 ((kc + 1)) ((kn + 6)) x2 x3 x4 x5 x6 x7 x8 x9 s0 r629 x10 ((1 : Int32)))
noncomputable def bb_L_law_59 (Z : Nat → Nat) (M : gMem) (kc : Nat) (kn : Nat) (x2 : Option Nat) (x3 : Option Nat) (x4 : Int32) (x5 : Int32) (x6 : Int32) (x7 : Int32) : Option ((gMem × Nat × Nat × Int32) ⊕ ((Nat ⊕ Int32) × gMem)) :=
  (if (30 : Int32) ≤ x7 then ck (kc ≤ 600086 ∧ kn ≤ 7301442) <| oI (some (.inr (1 : Int32), M)) else ck (kc + 0 ≤ 600086 ∧ kn + 0 ≤ 7301442) <| bd (f_L_cell Z M  ((x7 - x7 / (16 : Int32) * (16 : Int32)))) fun r636 M636 => ck ((kc + 0) + 0 ≤ 600086 ∧ (kn + 0) + 0 ≤ 7301442) <| bd (f_L_below M636 (((r636 >>> (((x7 / (16 : Int32)) * (6 : Int32)) &&& 31)) >>> ((3 : Int32) &&& 31))) x4) fun r638 M638 => ck (((kc + 0) + 0) + 0 ≤ 600086 ∧ ((kn + 0) + 0) + 0 ≤ 7301442) <| bd (f_L_below M638 ((r636 >>> (((x7 / (16 : Int32)) * (6 : Int32)) &&& 31))) ((4 : Int32))) fun r640 M640 => (if r640 = 0 then dr x3 fun a643 => ck (mT M640 a643 = 10) <| ck ((((kc + 0) + 0) + 0) + 1 ≤ 600086 ∧ (((kn + 0) + 0) + 0) + 6 ≤ 7301442) <| bx (f_X11_count M640 a643 ((8 : Int32))) (fun e642 M642 => oI (some (.inl e642, M642))) fun r642 M642 => ck (mT M642 a643 = 10) <| ck (((((kc + 0) + 0) + 0) + 1) + 2 ≤ 600086 ∧ ((((kn + 0) + 0) + 0) + 6) + 12 ≤ 7301442) <| bx (f_X11_fisher M642 a643 r638 ((8 : Int32))) (fun e647 M647 => oI (some (.inl e647, M647))) fun r647 M647 => ck ((((((kc + 0) + 0) + 0) + 1) + 2) + 0 ≤ 600086 ∧ (((((kn + 0) + 0) + 0) + 6) + 12) + 0 ≤ 7301442) <| bd (f_L_below M647 (((r636 >>> (((x7 / (16 : Int32)) * (6 : Int32)) &&& 31)) >>> ((5 : Int32) &&& 31))) ((2 : Int32))) fun r651 M651 => (if r651 = 0 then b_L_law_139 Z M651 (((((((kc + 0) + 0) + 0) + 1) + 2) + 0)) (((((((kn + 0) + 0) + 0) + 6) + 12) + 0)) x2 x3 x4 x5 x6 x7 ((r636 >>> (((x7 / (16 : Int32)) * (6 : Int32)) &&& 31))) r638 ((r642 - r647)) ((1 : Int32)) else b_L_law_139 Z M651 (((((((kc + 0) + 0) + 0) + 1) + 2) + 0)) (((((((kn + 0) + 0) + 0) + 6) + 12) + 0)) x2 x3 x4 x5 x6 x7 ((r636 >>> (((x7 / (16 : Int32)) * (6 : Int32)) &&& 31))) r638 ((r642 - r647)) ((0 : Int32))) else b_L_law_188 Z M640 ((((kc + 0) + 0) + 0)) ((((kn + 0) + 0) + 0)) x2 x3 x4 x5 x6 x7 ((r636 >>> (((x7 / (16 : Int32)) * (6 : Int32)) &&& 31))) r638))
noncomputable def lp_L_law_59 (Z : Nat → Nat) (M : gMem) (kc : Nat) (kn : Nat) (x2 : Option Nat) (x3 : Option Nat) (x4 : Int32) (x5 : Int32) (x6 : Int32) (x7 : Int32) : Option ((Nat ⊕ Int32) × gMem) :=
  lp (fun (q : gMem × Nat × Nat × Int32) => bb_L_law_59 Z q.1 q.2.1 q.2.2.1 x2 x3 x4 x5 x6 q.2.2.2) (M, kc, kn, x7)
noncomputable def b_L_law_0 (Z : Nat → Nat) (M : gMem) (kc : Nat) (kn : Nat) : Option ((Nat ⊕ Int32) × gMem) :=
  ck (kc + 1 ≤ 600086 ∧ kn + 4 ≤ 7301442) <| lw (nW M 13 0) fun M654 => ck ((kc + 1) + 1 ≤ 600086 ∧ (kn + 4) + 16 ≤ 7301442) <| bd (f_J4_init_da8c8 Z M654 ((mN M))) fun _ M655 => ck (((kc + 1) + 1) + 800 ≤ 600086 ∧ ((kn + 4) + 16) + 1200000 ≤ 7301442) <| bd (f_L_shore Z M655  ((some (mN M)))) fun r657 M657 => ck ((((kc + 1) + 1) + 800) + 1 ≤ 600086 ∧ (((kn + 4) + 16) + 1200000) + 4 ≤ 7301442) <| lw (nW M657 10 0) fun M660 => ck (((((kc + 1) + 1) + 800) + 1) + 187 ≤ 600086 ∧ ((((kn + 4) + 16) + 1200000) + 4) + 75243 ≤ 7301442) <| bd (f_X11_init Z M660 ((mN M657))) fun _ M661 => ck (mT M661 (mN M) = 13) <| ck ((((((kc + 1) + 1) + 800) + 1) + 187) + 2 ≤ 600086 ∧ (((((kn + 4) + 16) + 1200000) + 4) + 75243) + 2404 ≤ 7301442) <| bd (f_J4_toString_0e30d Z M661 ((mN M))) fun r663 M663 => ck (((((((kc + 1) + 1) + 800) + 1) + 187) + 2) + 300 ≤ 600086 ∧ ((((((kn + 4) + 16) + 1200000) + 4) + 75243) + 2404) + 3000 ≤ 7301442) <| bx (f_L_taught Z M663 ((some (mN M657))) r663) (fun e666 M666 => some (.inl e666, M666)) fun r666 M666 => (if r666 = 0 then ck (mT M666 (mN M657) = 10) <| ck ((((((((kc + 1) + 1) + 800) + 1) + 187) + 2) + 300) + 1 ≤ 600086 ∧ (((((((kn + 4) + 16) + 1200000) + 4) + 75243) + 2404) + 3000) + 6 ≤ 7301442) <| bx (f_X11_count M666 ((mN M657)) ((2 : Int32))) (fun e668 M668 => some (.inl e668, M668)) fun r668 M668 => ck (mT M668 (mN M657) = 10) <| ck (((((((((kc + 1) + 1) + 800) + 1) + 187) + 2) + 300) + 1) + 1 ≤ 600086 ∧ ((((((((kn + 4) + 16) + 1200000) + 4) + 75243) + 2404) + 3000) + 6) + 6 ≤ 7301442) <| bx (f_X11_count M668 ((mN M657)) ((1 : Int32))) (fun e671 M671 => some (.inl e671, M671)) fun r671 M671 => ck (mT M671 (mN M657) = 10) <| ck ((((((((((kc + 1) + 1) + 800) + 1) + 187) + 2) + 300) + 1) + 1) + 1 ≤ 600086 ∧ (((((((((kn + 4) + 16) + 1200000) + 4) + 75243) + 2404) + 3000) + 6) + 6) + 6 ≤ 7301442) <| bx (f_X11_count M671 ((mN M657)) ((4 : Int32))) (fun e674 M674 => some (.inl e674, M674)) fun r674 M674 => lp_L_law_59 Z M674 (((((((((((kc + 1) + 1) + 800) + 1) + 187) + 2) + 300) + 1) + 1) + 1)) (((((((((((kn + 4) + 16) + 1200000) + 4) + 75243) + 2404) + 3000) + 6) + 6) + 6)) r657 ((some (mN M657))) r668 r671 r674 ((0 : Int32)) else ck ((((((((kc + 1) + 1) + 800) + 1) + 187) + 2) + 300) ≤ 600086 ∧ (((((((kn + 4) + 16) + 1200000) + 4) + 75243) + 2404) + 3000) ≤ 7301442) <| some (.inr (0 : Int32), M666))
noncomputable def f_L_law (Z : Nat → Nat) (M : gMem)  : Option ((Nat ⊕ Int32) × gMem) :=
  b_L_law_0 Z M 0 0
set_option maxHeartbeats 4000000 in
set_option maxRecDepth 100000 in
theorem t_L_law_1586 (X2 : gX p s m args meth c D cy B (gSt2 Z B H0) RL cL_law wsL_law 34) (hr : meth.sig.returnType = (some .boolean)) (hlx : l.stackTraces = false) (hH : ∀ q : Nat, q < B → s.heap[q]? = H0[q]?) (hne : ∀ x ∈ c.exceptionTable.toList, False) (hH0 : H0.size = B) {Q : State → Prop} : ∀ (M : gMem) (kc : Nat) (kn : Nat) (z : (Nat ⊕ Int32) × gMem), b_L_law_1586 Z M kc kn = some z → (fun (r : (Nat ⊕ Int32) × gMem) => Q = gMX below D cy B H0 args s 600086 7301442 (gzI r.1) r.2) z → gGo p l e rL_law s m args below meth c D cy B H0 34 kc kn Q 1586 [] [] M := by
  intro M kc kn z hf hK
  unfold b_L_law_1586 at hf
  have X := gX_w X2
  refine g_iconst (v := (0 : Int32)) X dL_law_1586 (by decide) ?_
  obtain ⟨hg1, hf⟩ := ck_e hf
  cases hf
  refine g_eqQ hK ?_
  refine g_wide (k' := 600086) (n' := 7301442) hg1.1 hg1.2 ?_
  refine g_xret ?_
  exact g_zret X hr (gnb (Or.inl rfl)) dL_law_1587
set_option maxHeartbeats 4000000 in
set_option maxRecDepth 100000 in
theorem t_L_law_1576 (X2 : gX p s m args meth c D cy B (gSt2 Z B H0) RL cL_law wsL_law 34) (hr : meth.sig.returnType = (some .boolean)) (hlx : l.stackTraces = false) (hH : ∀ q : Nat, q < B → s.heap[q]? = H0[q]?) (hne : ∀ x ∈ c.exceptionTable.toList, False) (hH0 : H0.size = B) {Q : State → Prop} : ∀ (M : gMem) (kc : Nat) (kn : Nat) (x2 : Option Nat) (x3 : Option Nat) (x4 : Int32) (x5 : Int32) (x6 : Int32) (x7 : Int32) (x23 : Int32) (x26 : Int32) (z : (gMem × Nat × Nat × Int32) ⊕ ((Nat ⊕ Int32) × gMem)), b_L_law_1576 Z M kc kn x2 x3 x4 x5 x6 x7 x23 x26 = some z → (Sum.elim (fun (q : gMem × Nat × Nat × Int32) => gGo p l e rL_law s m args below meth c D cy B H0 34 q.2.1 q.2.2.1 Q 59 [(0, vR (some (Z 400))), (2, vR x2), (3, vR x3), (4, vI x4), (5, vI x5), (6, vI x6), (7, vI q.2.2.2)] [] q.1) (fun (r : (Nat ⊕ Int32) × gMem) => Q = gMX below D cy B H0 args s 600086 7301442 (gzI r.1) r.2)) z → gGo p l e rL_law s m args below meth c D cy B H0 34 kc kn Q 1576 [(0, vR (some (Z 400))), (2, vR x2), (3, vR x3), (4, vI x4), (5, vI x5), (6, vI x6), (7, vI x7), (23, vI x23), (26, vI x26)] [] M := by
  intro M kc kn x2 x3 x4 x5 x6 x7 x23 x26 z hf hK
  unfold b_L_law_1576 at hf
  have X := gX_w X2
  refine g_iload X dL_law_1576 rfl ?_
  refine g_iload X dL_law_1578 rfl ?_
  refine g_iload X dL_law_1580 rfl ?_
  refine g_imul X dL_law_1582 ?_
  refine g_icmp_le (tgt := 1588) X dL_law_1583 (by decide) (fun hc => ?_) (fun hc => ?_)
  · have hf := ife_t hc hf
    refine g_iinc (v := (1 : Int32)) (lv' := [(7, vI (x7 + (1 : Int32))), (0, vR (some (Z 400))), (2, vR x2), (3, vR x3), (4, vI x4), (5, vI x5), (6, vI x6), (23, vI x23), (26, vI x26)]) X dL_law_1588 rfl (by decide) (by decide) rfl ?_
    refine g_goto (tgt := 59) X dL_law_1591 (by decide) ?_
    cases hf
    refine g_sub (lvsub_of _ _ [1, 2, 3, 4, 5, 6, 0] rfl) ?_
    exact hK
  · have hf := ife_f hc hf
    obtain ⟨w2, hw2, hz2⟩ := oI_e hf
    subst hz2
    have hf := hw2
    refine g_sub (lvsub_of _ _ [] rfl) ?_
    exact t_L_law_1586 X2 hr hlx hH hne hH0 _ _ _ _ hf hK
set_option maxHeartbeats 4000000 in
set_option maxRecDepth 100000 in
theorem t_L_law_1552 (X2 : gX p s m args meth c D cy B (gSt2 Z B H0) RL cL_law wsL_law 34) (hr : meth.sig.returnType = (some .boolean)) (hlx : l.stackTraces = false) (hH : ∀ q : Nat, q < B → s.heap[q]? = H0[q]?) (hne : ∀ x ∈ c.exceptionTable.toList, False) (hH0 : H0.size = B) {Q : State → Prop} : ∀ (M : gMem) (kc : Nat) (kn : Nat) (x2 : Option Nat) (x3 : Option Nat) (x4 : Int32) (x5 : Int32) (x6 : Int32) (x7 : Int32) (x21 : Int32) (x23 : Int32) (x26 : Int32) (x28 : Int32) (s0 : Int32) (s1 : Int32) (z : (gMem × Nat × Nat × Int32 × Int32) ⊕ ((gMem × Nat × Nat × Int32) ⊕ ((Nat ⊕ Int32) × gMem))), b_L_law_1552 Z M kc kn x2 x3 x4 x5 x6 x7 x21 x23 x26 x28 s0 s1 = some z → (Sum.elim (fun (q : gMem × Nat × Nat × Int32 × Int32) => gGo p l e rL_law s m args below meth c D cy B H0 34 q.2.1 q.2.2.1 Q 1509 [(0, vR (some (Z 400))), (2, vR x2), (3, vR x3), (4, vI x4), (5, vI x5), (6, vI x6), (7, vI x7), (21, vI x21), (23, vI x23), (26, vI x26), (27, vI q.2.2.2.1), (28, vI q.2.2.2.2)] [] q.1) (Sum.elim (fun (q : gMem × Nat × Nat × Int32) => gGo p l e rL_law s m args below meth c D cy B H0 34 q.2.1 q.2.2.1 Q 59 [(0, vR (some (Z 400))), (2, vR x2), (3, vR x3), (4, vI x4), (5, vI x5), (6, vI x6), (7, vI q.2.2.2)] [] q.1) (fun (r : (Nat ⊕ Int32) × gMem) => Q = gMX below D cy B H0 args s 600086 7301442 (gzI r.1) r.2))) z → gGo p l e rL_law s m args below meth c D cy B H0 34 kc kn Q 1552 [(0, vR (some (Z 400))), (2, vR x2), (3, vR x3), (4, vI x4), (5, vI x5), (6, vI x6), (7, vI x7), (21, vI x21), (23, vI x23), (26, vI x26), (28, vI x28)] [vI s1, vI s0] M := by
  intro M kc kn x2 x3 x4 x5 x6 x7 x21 x23 x26 x28 s0 s1 z hf hK
  unfold b_L_law_1552 at hf
  have X := gX_w X2
  refine g_ior X dL_law_1552 ?_
  refine g_istore (lv' := [(27, vI (s0 ||| s1)), (0, vR (some (Z 400))), (2, vR x2), (3, vR x3), (4, vI x4), (5, vI x5), (6, vI x6), (7, vI x7), (21, vI x21), (23, vI x23), (26, vI x26), (28, vI x28)]) X dL_law_1553 (by decide) rfl ?_
  refine g_iinc (v := (1 : Int32)) (lv' := [(28, vI (x28 + (1 : Int32))), (27, vI (s0 ||| s1)), (0, vR (some (Z 400))), (2, vR x2), (3, vR x3), (4, vI x4), (5, vI x5), (6, vI x6), (7, vI x7), (21, vI x21), (23, vI x23), (26, vI x26)]) X dL_law_1555 rfl (by decide) (by decide) rfl ?_
  refine g_goto (tgt := 1509) X dL_law_1558 (by decide) ?_
  cases hf
  refine g_sub (lvsub_of _ _ [2, 3, 4, 5, 6, 7, 8, 9, 10, 11, 1, 0] rfl) ?_
  exact hK
set_option maxHeartbeats 4000000 in
set_option maxRecDepth 100000 in
theorem t_L_law_1547 (X2 : gX p s m args meth c D cy B (gSt2 Z B H0) RL cL_law wsL_law 34) (hr : meth.sig.returnType = (some .boolean)) (hlx : l.stackTraces = false) (hH : ∀ q : Nat, q < B → s.heap[q]? = H0[q]?) (hne : ∀ x ∈ c.exceptionTable.toList, False) (hH0 : H0.size = B) {Q : State → Prop} : ∀ (M : gMem) (kc : Nat) (kn : Nat) (x2 : Option Nat) (x3 : Option Nat) (x4 : Int32) (x5 : Int32) (x6 : Int32) (x7 : Int32) (x21 : Int32) (x23 : Int32) (x26 : Int32) (x28 : Int32) (s0 : Int32) (z : (gMem × Nat × Nat × Int32 × Int32) ⊕ ((gMem × Nat × Nat × Int32) ⊕ ((Nat ⊕ Int32) × gMem))), b_L_law_1547 Z M kc kn x2 x3 x4 x5 x6 x7 x21 x23 x26 x28 s0 = some z → (Sum.elim (fun (q : gMem × Nat × Nat × Int32 × Int32) => gGo p l e rL_law s m args below meth c D cy B H0 34 q.2.1 q.2.2.1 Q 1509 [(0, vR (some (Z 400))), (2, vR x2), (3, vR x3), (4, vI x4), (5, vI x5), (6, vI x6), (7, vI x7), (21, vI x21), (23, vI x23), (26, vI x26), (27, vI q.2.2.2.1), (28, vI q.2.2.2.2)] [] q.1) (Sum.elim (fun (q : gMem × Nat × Nat × Int32) => gGo p l e rL_law s m args below meth c D cy B H0 34 q.2.1 q.2.2.1 Q 59 [(0, vR (some (Z 400))), (2, vR x2), (3, vR x3), (4, vI x4), (5, vI x5), (6, vI x6), (7, vI q.2.2.2)] [] q.1) (fun (r : (Nat ⊕ Int32) × gMem) => Q = gMX below D cy B H0 args s 600086 7301442 (gzI r.1) r.2))) z → gGo p l e rL_law s m args below meth c D cy B H0 34 kc kn Q 1547 [(0, vR (some (Z 400))), (2, vR x2), (3, vR x3), (4, vI x4), (5, vI x5), (6, vI x6), (7, vI x7), (21, vI x21), (23, vI x23), (26, vI x26), (28, vI x28)] [vI s0] M := by
  intro M kc kn x2 x3 x4 x5 x6 x7 x21 x23 x26 x28 s0 z hf hK
  unfold b_L_law_1547 at hf
  have X := gX_w X2
  refine g_iconst (v := (1 : Int32)) X dL_law_1547 (by decide) ?_
  refine g_goto (tgt := 1552) X dL_law_1548 (by decide) ?_
  refine g_sub (lvsub_of _ _ [0, 1, 2, 3, 4, 5, 6, 7, 8, 9, 10] rfl) ?_
  exact t_L_law_1552 X2 hr hlx hH hne hH0 _ _ _ _ _ _ _ _ _ _ _ _ _ _ _ _ hf hK
set_option maxHeartbeats 4000000 in
set_option maxRecDepth 100000 in
theorem tb_L_law_1509 (X2 : gX p s m args meth c D cy B (gSt2 Z B H0) RL cL_law wsL_law 34) (hr : meth.sig.returnType = (some .boolean)) (hlx : l.stackTraces = false) (hH : ∀ q : Nat, q < B → s.heap[q]? = H0[q]?) (hne : ∀ x ∈ c.exceptionTable.toList, False) (hH0 : H0.size = B) {Q : State → Prop} : ∀ (M : gMem) (kc : Nat) (kn : Nat) (x2 : Option Nat) (x3 : Option Nat) (x4 : Int32) (x5 : Int32) (x6 : Int32) (x7 : Int32) (x21 : Int32) (x23 : Int32) (x26 : Int32) (x27 : Int32) (x28 : Int32) (z : (gMem × Nat × Nat × Int32 × Int32) ⊕ ((gMem × Nat × Nat × Int32) ⊕ ((Nat ⊕ Int32) × gMem))), bb_L_law_1509 Z M kc kn x2 x3 x4 x5 x6 x7 x21 x23 x26 x27 x28 = some z → (Sum.elim (fun (q : gMem × Nat × Nat × Int32 × Int32) => gGo p l e rL_law s m args below meth c D cy B H0 34 q.2.1 q.2.2.1 Q 1509 [(0, vR (some (Z 400))), (2, vR x2), (3, vR x3), (4, vI x4), (5, vI x5), (6, vI x6), (7, vI x7), (21, vI x21), (23, vI x23), (26, vI x26), (27, vI q.2.2.2.1), (28, vI q.2.2.2.2)] [] q.1) (Sum.elim (fun (q : gMem × Nat × Nat × Int32) => gGo p l e rL_law s m args below meth c D cy B H0 34 q.2.1 q.2.2.1 Q 59 [(0, vR (some (Z 400))), (2, vR x2), (3, vR x3), (4, vI x4), (5, vI x5), (6, vI x6), (7, vI q.2.2.2)] [] q.1) (fun (r : (Nat ⊕ Int32) × gMem) => Q = gMX below D cy B H0 args s 600086 7301442 (gzI r.1) r.2))) z → gGo p l e rL_law s m args below meth c D cy B H0 34 kc kn Q 1509 [(0, vR (some (Z 400))), (2, vR x2), (3, vR x3), (4, vI x4), (5, vI x5), (6, vI x6), (7, vI x7), (21, vI x21), (23, vI x23), (26, vI x26), (27, vI x27), (28, vI x28)] [] M := by
  intro M kc kn x2 x3 x4 x5 x6 x7 x21 x23 x26 x27 x28 z hf hK
  unfold bb_L_law_1509 at hf
  have X := gX_w X2
  refine g_iload X dL_law_1509 rfl ?_
  refine g_aload_n X dL_law_1511 rfl rfl ?_
  obtain ⟨a3, ha3, hf⟩ := dr_e hf
  obtain ⟨hT4, hf⟩ := ck_e hf
  refine g_get (ci := 10) (v := vI (mI M a3 5)) 5 X cdX12 i_L_law_X12 (by decide) k_L_law_f155 rfl dL_law_1512 ha3 hT4 rfl ?_
  refine g_icmp_ge (tgt := 1561) X dL_law_1515 (by decide) (fun hc => ?_) (fun hc => ?_)
  · have hf := ife_t hc hf
    refine g_iload X dL_law_1561 rfl ?_
    refine g_if_ne (tgt := 1576) X dL_law_1563 (by decide) (fun hc => ?_) (fun hc => ?_)
    · have hf := ife_f hc hf
      obtain ⟨w5, hw5, hz5⟩ := oI_e hf
      subst hz5
      have hf := hw5
      refine g_sub (lvsub_of _ _ [0, 1, 2, 3, 4, 5, 6, 8, 9] rfl) ?_
      exact t_L_law_1576 X2 hr hlx hH hne hH0 _ _ _ _ _ _ _ _ _ _ _ _ hf hK
    · have hf := ife_t hc hf
      refine g_iload X dL_law_1566 rfl ?_
      refine g_if_ne (tgt := 1576) X dL_law_1568 (by decide) (fun hc => ?_) (fun hc => ?_)
      · have hf := ife_f hc hf
        obtain ⟨w6, hw6, hz6⟩ := oI_e hf
        subst hz6
        have hf := hw6
        refine g_sub (lvsub_of _ _ [0, 1, 2, 3, 4, 5, 6, 8, 9] rfl) ?_
        exact t_L_law_1576 X2 hr hlx hH hne hH0 _ _ _ _ _ _ _ _ _ _ _ _ hf hK
      · have hf := ife_t hc hf
        refine g_iload X dL_law_1571 rfl ?_
        refine g_if_ne (tgt := 1586) X dL_law_1573 (by decide) (fun hc => ?_) (fun hc => ?_)
        · have hf := ife_f hc hf
          obtain ⟨w7, hw7, hz7⟩ := oI_e hf
          subst hz7
          have hf := hw7
          obtain ⟨w8, hw8, hz8⟩ := oI_e hf
          subst hz8
          have hf := hw8
          refine g_sub (lvsub_of _ _ [] rfl) ?_
          exact t_L_law_1586 X2 hr hlx hH hne hH0 _ _ _ _ hf hK
        · have hf := ife_t hc hf
          obtain ⟨w9, hw9, hz9⟩ := oI_e hf
          subst hz9
          have hf := hw9
          refine g_sub (lvsub_of _ _ [0, 1, 2, 3, 4, 5, 6, 8, 9] rfl) ?_
          exact t_L_law_1576 X2 hr hlx hH hne hH0 _ _ _ _ _ _ _ _ _ _ _ _ hf hK
  · have hf := ife_f hc hf
    refine g_iload X dL_law_1518 rfl ?_
    refine g_aload_n X dL_law_1520 rfl rfl ?_
    refine g_get (ci := 10) (v := vR (mR M a3 4)) 4 X cdX12 i_L_law_X12 (by decide) k_L_law_f158 rfl dL_law_1521 ha3 hT4 rfl ?_
    refine g_iload X dL_law_1524 rfl ?_
    obtain ⟨a10, ha10, hf⟩ := dr_e hf
    obtain ⟨hT11, hf⟩ := ck_e hf
    obtain ⟨hg12, hf⟩ := ck_e hf
    refine g_aaldA X dL_law_1526 ha10 hT11 hg12 ?_
    refine g_iconst (v := (2 : Int32)) X dL_law_1527 (by decide) ?_
    obtain ⟨a13, ha13, hf⟩ := dr_e hf
    obtain ⟨hT14, hf⟩ := ck_e hf
    obtain ⟨hg15, hf⟩ := ck_e hf
    refine g_iald X dL_law_1528 ha13 hT14 hg15 ?_
    refine g_iconst (v := (3 : Int32)) X dL_law_1529 (by decide) ?_
    refine g_icmp_eq (tgt := 1547) X dL_law_1530 (by decide) (fun hc => ?_) (fun hc => ?_)
    · have hf := ife_t hc hf
      refine g_sub (lvsub_of _ _ [0, 1, 2, 3, 4, 5, 6, 7, 8, 9, 11] rfl) ?_
      exact t_L_law_1547 X2 hr hlx hH hne hH0 _ _ _ _ _ _ _ _ _ _ _ _ _ _ _ hf hK
    · have hf := ife_f hc hf
      refine g_aload_n X dL_law_1533 rfl rfl ?_
      refine g_get (ci := 10) (v := vR (mR M a3 4)) 4 X cdX12 i_L_law_X12 (by decide) k_L_law_f158 rfl dL_law_1534 ha3 hT4 rfl ?_
      refine g_iload X dL_law_1537 rfl ?_
      obtain ⟨hg16, hf⟩ := ck_e hf
      refine g_aaldA X dL_law_1539 ha10 hT11 hg16 ?_
      refine g_iconst (v := (2 : Int32)) X dL_law_1540 (by decide) ?_
      obtain ⟨hg17, hf⟩ := ck_e hf
      refine g_iald X dL_law_1541 ha13 hT14 hg17 ?_
      refine g_bipush (v := (7 : Int32)) X dL_law_1542 (by decide) ?_
      refine g_icmp_ne (tgt := 1551) X dL_law_1544 (by decide) (fun hc => ?_) (fun hc => ?_)
      · have hf := ife_f hc hf
        refine g_iconst (v := (0 : Int32)) X dL_law_1551 (by decide) ?_
        refine g_sub (lvsub_of _ _ [0, 1, 2, 3, 4, 5, 6, 7, 8, 9, 11] rfl) ?_
        exact t_L_law_1552 X2 hr hlx hH hne hH0 _ _ _ _ _ _ _ _ _ _ _ _ _ _ _ _ hf hK
      · have hf := ife_t hc hf
        refine g_sub (lvsub_of _ _ [0, 1, 2, 3, 4, 5, 6, 7, 8, 9, 11] rfl) ?_
        exact t_L_law_1547 X2 hr hlx hH hne hH0 _ _ _ _ _ _ _ _ _ _ _ _ _ _ _ hf hK
set_option maxHeartbeats 4000000 in
set_option maxRecDepth 100000 in
theorem tl_L_law_1509 (X2 : gX p s m args meth c D cy B (gSt2 Z B H0) RL cL_law wsL_law 34) (hr : meth.sig.returnType = (some .boolean)) (hlx : l.stackTraces = false) (hH : ∀ q : Nat, q < B → s.heap[q]? = H0[q]?) (hne : ∀ x ∈ c.exceptionTable.toList, False) (hH0 : H0.size = B) {Q : State → Prop} : ∀ (M : gMem) (kc : Nat) (kn : Nat) (x2 : Option Nat) (x3 : Option Nat) (x4 : Int32) (x5 : Int32) (x6 : Int32) (x7 : Int32) (x21 : Int32) (x23 : Int32) (x26 : Int32) (x27 : Int32) (x28 : Int32) (z : (gMem × Nat × Nat × Int32) ⊕ ((Nat ⊕ Int32) × gMem)), lp_L_law_1509 Z M kc kn x2 x3 x4 x5 x6 x7 x21 x23 x26 x27 x28 = some z → (Sum.elim (fun (q : gMem × Nat × Nat × Int32) => gGo p l e rL_law s m args below meth c D cy B H0 34 q.2.1 q.2.2.1 Q 59 [(0, vR (some (Z 400))), (2, vR x2), (3, vR x3), (4, vI x4), (5, vI x5), (6, vI x6), (7, vI q.2.2.2)] [] q.1) (fun (r : (Nat ⊕ Int32) × gMem) => Q = gMX below D cy B H0 args s 600086 7301442 (gzI r.1) r.2)) z → gGo p l e rL_law s m args below meth c D cy B H0 34 kc kn Q 1509 [(0, vR (some (Z 400))), (2, vR x2), (3, vR x3), (4, vI x4), (5, vI x5), (6, vI x6), (7, vI x7), (21, vI x21), (23, vI x23), (26, vI x26), (27, vI x27), (28, vI x28)] [] M := by
  intro M kc kn x2 x3 x4 x5 x6 x7 x21 x23 x26 x27 x28 z hf hK
  refine lp_ind (P := (fun (q : gMem × Nat × Nat × Int32 × Int32) (z : (gMem × Nat × Nat × Int32) ⊕ ((Nat ⊕ Int32) × gMem)) => (Sum.elim (fun (q : gMem × Nat × Nat × Int32) => gGo p l e rL_law s m args below meth c D cy B H0 34 q.2.1 q.2.2.1 Q 59 [(0, vR (some (Z 400))), (2, vR x2), (3, vR x3), (4, vI x4), (5, vI x5), (6, vI x6), (7, vI q.2.2.2)] [] q.1) (fun (r : (Nat ⊕ Int32) × gMem) => Q = gMX below D cy B H0 args s 600086 7301442 (gzI r.1) r.2)) z → gGo p l e rL_law s m args below meth c D cy B H0 34 q.2.1 q.2.2.1 Q 1509 [(0, vR (some (Z 400))), (2, vR x2), (3, vR x3), (4, vI x4), (5, vI x5), (6, vI x6), (7, vI x7), (21, vI x21), (23, vI x23), (26, vI x26), (27, vI q.2.2.2.1), (28, vI q.2.2.2.2)] [] q.1)) (fun q z hq => ?_) _ _ hf hK
  intro hK
  obtain ⟨w, hw, hm⟩ := hq
  refine tb_L_law_1509 X2 hr hlx hH hne hH0 _ _ _ _ _ _ _ _ _ _ _ _ _ _ w hw ?_
  cases w with
  | inl a => exact hm hK
  | inr b => cases hm; exact hK
set_option maxHeartbeats 4000000 in
set_option maxRecDepth 100000 in
theorem tb_L_law_1464 (X2 : gX p s m args meth c D cy B (gSt2 Z B H0) RL cL_law wsL_law 34) (hr : meth.sig.returnType = (some .boolean)) (hlx : l.stackTraces = false) (hH : ∀ q : Nat, q < B → s.heap[q]? = H0[q]?) (hne : ∀ x ∈ c.exceptionTable.toList, False) (hH0 : H0.size = B) {Q : State → Prop} : ∀ (M : gMem) (kc : Nat) (kn : Nat) (x2 : Option Nat) (x3 : Option Nat) (x4 : Int32) (x5 : Int32) (x6 : Int32) (x7 : Int32) (x10 : Option Nat) (x12 : Option Nat) (x21 : Int32) (x23 : Int32) (x26 : Int32) (x27 : Int32) (x30 : Int32) (z : (gMem × Nat × Nat × Int32) ⊕ ((gMem × Nat × Nat × Int32 × Int32) ⊕ ((gMem × Nat × Nat × Int32) ⊕ ((Nat ⊕ Int32) × gMem)))), bb_L_law_1464 Z M kc kn x2 x3 x4 x5 x6 x7 x10 x12 x21 x23 x26 x27 x30 = some z → (Sum.elim (fun (q : gMem × Nat × Nat × Int32) => gGo p l e rL_law s m args below meth c D cy B H0 34 q.2.1 q.2.2.1 Q 1464 [(0, vR (some (Z 400))), (2, vR x2), (3, vR x3), (4, vI x4), (5, vI x5), (6, vI x6), (7, vI x7), (10, vR x10), (12, vR x12), (21, vI x21), (23, vI x23), (26, vI x26), (27, vI x27), (30, vI q.2.2.2)] [] q.1) (Sum.elim (fun (q : gMem × Nat × Nat × Int32 × Int32) => gGo p l e rL_law s m args below meth c D cy B H0 34 q.2.1 q.2.2.1 Q 1278 [(0, vR (some (Z 400))), (2, vR x2), (3, vR x3), (4, vI x4), (5, vI x5), (6, vI x6), (7, vI x7), (10, vR x10), (12, vR x12), (21, vI x21), (23, vI x23), (26, vI q.2.2.2.1), (27, vI q.2.2.2.2)] [] q.1) (Sum.elim (fun (q : gMem × Nat × Nat × Int32) => gGo p l e rL_law s m args below meth c D cy B H0 34 q.2.1 q.2.2.1 Q 59 [(0, vR (some (Z 400))), (2, vR x2), (3, vR x3), (4, vI x4), (5, vI x5), (6, vI x6), (7, vI q.2.2.2)] [] q.1) (fun (r : (Nat ⊕ Int32) × gMem) => Q = gMX below D cy B H0 args s 600086 7301442 (gzI r.1) r.2)))) z → gGo p l e rL_law s m args below meth c D cy B H0 34 kc kn Q 1464 [(0, vR (some (Z 400))), (2, vR x2), (3, vR x3), (4, vI x4), (5, vI x5), (6, vI x6), (7, vI x7), (10, vR x10), (12, vR x12), (21, vI x21), (23, vI x23), (26, vI x26), (27, vI x27), (30, vI x30)] [] M := by
  intro M kc kn x2 x3 x4 x5 x6 x7 x10 x12 x21 x23 x26 x27 x30 z hf hK
  unfold bb_L_law_1464 at hf
  have X := gX_w X2
  refine g_iload X dL_law_1464 rfl ?_
  refine g_iconst (v := (4 : Int32)) X dL_law_1466 (by decide) ?_
  refine g_icmp_ge (tgt := 1497) X dL_law_1467 (by decide) (fun hc => ?_) (fun hc => ?_)
  · have hf := ife_t hc hf
    refine g_iinc (v := (1 : Int32)) (lv' := [(27, vI (x27 + (1 : Int32))), (0, vR (some (Z 400))), (2, vR x2), (3, vR x3), (4, vI x4), (5, vI x5), (6, vI x6), (7, vI x7), (10, vR x10), (12, vR x12), (21, vI x21), (23, vI x23), (26, vI x26), (30, vI x30)]) X dL_law_1497 rfl (by decide) (by decide) rfl ?_
    refine g_goto (tgt := 1278) X dL_law_1500 (by decide) ?_
    obtain ⟨w18, hw18, hz18⟩ := oI_e hf
    subst hz18
    have hf := hw18
    cases hf
    refine g_sub (lvsub_of _ _ [1, 2, 3, 4, 5, 6, 7, 8, 9, 10, 11, 12, 0] rfl) ?_
    exact hK
  · have hf := ife_f hc hf
    refine g_aload_n X dL_law_1470 rfl rfl ?_
    refine g_iload X dL_law_1471 rfl ?_
    refine g_iload X dL_law_1473 rfl ?_
    obtain ⟨a20, ha20, hf⟩ := dr_e hf
    obtain ⟨hT21, hf⟩ := ck_e hf
    obtain ⟨hg22, hf⟩ := ck_e hf
    rcases bx_e hf with ⟨e19, M19, hq19, hf⟩ | ⟨r19, M19, hq19, hf⟩
    · obtain ⟨w23, hw23, hz23⟩ := oI_e hf
      subst hz23
      have hf := hw23
      obtain ⟨w24, hw24, hz24⟩ := oI_e hf
      subst hz24
      have hf := hw24
      obtain ⟨w25, hw25, hz25⟩ := oI_e hf
      subst hz25
      have hf := hw25
      cases hf
      refine g_eqQ hK ?_
      exact g_callTV (ci := 9) (b := a20) (As := [vI x27, vI x30]) (st := []) (M1 := M19) X2 hne (m_X11_pact l hlx hH0 hq19) (cwV 2 X.2.2.1 gL_law_X11_pact rfl rfl rfl (by decide +kernel) ⟨Nat.le_of_ble_eq_true rfl, Nat.le_of_ble_eq_true rfl⟩) rfl rfl ha20 hT21 (by decide) rfl (Nat.le_of_ble_eq_true rfl) dL_law_1475 ⟨hg22.1, hg22.2⟩ hg22.1 hg22.2
    refine g_callXV (ci := 9) (b := a20) (As := [vI x27, vI x30]) (st := []) (v := some (vI r19)) (M1 := M19) X2 (m_X11_pact l hlx hH0 hq19) (cwV 2 X.2.2.1 gL_law_X11_pact rfl rfl rfl (by decide +kernel) ⟨Nat.le_of_ble_eq_true rfl, Nat.le_of_ble_eq_true rfl⟩) rfl rfl ha20 hT21 (by decide) rfl (Nat.le_of_ble_eq_true rfl) dL_law_1475 ⟨hg22.1, hg22.2⟩ ?_
    refine g_aload X dL_law_1478 rfl ?_
    refine g_iload X dL_law_1480 rfl ?_
    obtain ⟨a26, ha26, hf⟩ := dr_e hf
    obtain ⟨hT27, hf⟩ := ck_e hf
    obtain ⟨hg28, hf⟩ := ck_e hf
    refine g_aaldA X dL_law_1482 ha26 hT27 hg28 ?_
    refine g_iload X dL_law_1483 rfl ?_
    obtain ⟨a29, ha29, hf⟩ := dr_e hf
    obtain ⟨hT30, hf⟩ := ck_e hf
    obtain ⟨hg31, hf⟩ := ck_e hf
    refine g_iald X dL_law_1485 ha29 hT30 hg31 ?_
    refine g_icmp_eq (tgt := 1491) X dL_law_1486 (by decide) (fun hc => ?_) (fun hc => ?_)
    · have hf := ife_t hc hf
      refine g_iinc (v := (1 : Int32)) (lv' := [(30, vI (x30 + (1 : Int32))), (0, vR (some (Z 400))), (2, vR x2), (3, vR x3), (4, vI x4), (5, vI x5), (6, vI x6), (7, vI x7), (10, vR x10), (12, vR x12), (21, vI x21), (23, vI x23), (26, vI x26), (27, vI x27)]) X dL_law_1491 rfl (by decide) (by decide) rfl ?_
      refine g_goto (tgt := 1464) X dL_law_1494 (by decide) ?_
      cases hf
      refine g_sub (lvsub_of _ _ [1, 2, 3, 4, 5, 6, 7, 8, 9, 10, 11, 12, 13, 0] rfl) ?_
      exact hK
    · have hf := ife_f hc hf
      refine g_iconst (v := (0 : Int32)) X dL_law_1489 (by decide) ?_
      obtain ⟨hg32, hf⟩ := ck_e hf
      obtain ⟨w33, hw33, hz33⟩ := oI_e hf
      subst hz33
      have hf := hw33
      obtain ⟨w34, hw34, hz34⟩ := oI_e hf
      subst hz34
      have hf := hw34
      obtain ⟨w35, hw35, hz35⟩ := oI_e hf
      subst hz35
      have hf := hw35
      cases hf
      refine g_eqQ hK ?_
      refine g_wide (k' := 600086) (n' := 7301442) hg32.1 hg32.2 ?_
      refine g_xret ?_
      exact g_zret X hr (gnb (Or.inl rfl)) dL_law_1490
set_option maxHeartbeats 4000000 in
set_option maxRecDepth 100000 in
theorem tl_L_law_1464 (X2 : gX p s m args meth c D cy B (gSt2 Z B H0) RL cL_law wsL_law 34) (hr : meth.sig.returnType = (some .boolean)) (hlx : l.stackTraces = false) (hH : ∀ q : Nat, q < B → s.heap[q]? = H0[q]?) (hne : ∀ x ∈ c.exceptionTable.toList, False) (hH0 : H0.size = B) {Q : State → Prop} : ∀ (M : gMem) (kc : Nat) (kn : Nat) (x2 : Option Nat) (x3 : Option Nat) (x4 : Int32) (x5 : Int32) (x6 : Int32) (x7 : Int32) (x10 : Option Nat) (x12 : Option Nat) (x21 : Int32) (x23 : Int32) (x26 : Int32) (x27 : Int32) (x30 : Int32) (z : (gMem × Nat × Nat × Int32 × Int32) ⊕ ((gMem × Nat × Nat × Int32) ⊕ ((Nat ⊕ Int32) × gMem))), lp_L_law_1464 Z M kc kn x2 x3 x4 x5 x6 x7 x10 x12 x21 x23 x26 x27 x30 = some z → (Sum.elim (fun (q : gMem × Nat × Nat × Int32 × Int32) => gGo p l e rL_law s m args below meth c D cy B H0 34 q.2.1 q.2.2.1 Q 1278 [(0, vR (some (Z 400))), (2, vR x2), (3, vR x3), (4, vI x4), (5, vI x5), (6, vI x6), (7, vI x7), (10, vR x10), (12, vR x12), (21, vI x21), (23, vI x23), (26, vI q.2.2.2.1), (27, vI q.2.2.2.2)] [] q.1) (Sum.elim (fun (q : gMem × Nat × Nat × Int32) => gGo p l e rL_law s m args below meth c D cy B H0 34 q.2.1 q.2.2.1 Q 59 [(0, vR (some (Z 400))), (2, vR x2), (3, vR x3), (4, vI x4), (5, vI x5), (6, vI x6), (7, vI q.2.2.2)] [] q.1) (fun (r : (Nat ⊕ Int32) × gMem) => Q = gMX below D cy B H0 args s 600086 7301442 (gzI r.1) r.2))) z → gGo p l e rL_law s m args below meth c D cy B H0 34 kc kn Q 1464 [(0, vR (some (Z 400))), (2, vR x2), (3, vR x3), (4, vI x4), (5, vI x5), (6, vI x6), (7, vI x7), (10, vR x10), (12, vR x12), (21, vI x21), (23, vI x23), (26, vI x26), (27, vI x27), (30, vI x30)] [] M := by
  intro M kc kn x2 x3 x4 x5 x6 x7 x10 x12 x21 x23 x26 x27 x30 z hf hK
  refine lp_ind (P := (fun (q : gMem × Nat × Nat × Int32) (z : (gMem × Nat × Nat × Int32 × Int32) ⊕ ((gMem × Nat × Nat × Int32) ⊕ ((Nat ⊕ Int32) × gMem))) => (Sum.elim (fun (q : gMem × Nat × Nat × Int32 × Int32) => gGo p l e rL_law s m args below meth c D cy B H0 34 q.2.1 q.2.2.1 Q 1278 [(0, vR (some (Z 400))), (2, vR x2), (3, vR x3), (4, vI x4), (5, vI x5), (6, vI x6), (7, vI x7), (10, vR x10), (12, vR x12), (21, vI x21), (23, vI x23), (26, vI q.2.2.2.1), (27, vI q.2.2.2.2)] [] q.1) (Sum.elim (fun (q : gMem × Nat × Nat × Int32) => gGo p l e rL_law s m args below meth c D cy B H0 34 q.2.1 q.2.2.1 Q 59 [(0, vR (some (Z 400))), (2, vR x2), (3, vR x3), (4, vI x4), (5, vI x5), (6, vI x6), (7, vI q.2.2.2)] [] q.1) (fun (r : (Nat ⊕ Int32) × gMem) => Q = gMX below D cy B H0 args s 600086 7301442 (gzI r.1) r.2))) z → gGo p l e rL_law s m args below meth c D cy B H0 34 q.2.1 q.2.2.1 Q 1464 [(0, vR (some (Z 400))), (2, vR x2), (3, vR x3), (4, vI x4), (5, vI x5), (6, vI x6), (7, vI x7), (10, vR x10), (12, vR x12), (21, vI x21), (23, vI x23), (26, vI x26), (27, vI x27), (30, vI q.2.2.2)] [] q.1)) (fun q z hq => ?_) _ _ hf hK
  intro hK
  obtain ⟨w, hw, hm⟩ := hq
  refine tb_L_law_1464 X2 hr hlx hH hne hH0 _ _ _ _ _ _ _ _ _ _ _ _ _ _ _ _ w hw ?_
  cases w with
  | inl a => exact hm hK
  | inr b => cases hm; exact hK
set_option maxHeartbeats 4000000 in
set_option maxRecDepth 100000 in
theorem t_L_law_1461 (X2 : gX p s m args meth c D cy B (gSt2 Z B H0) RL cL_law wsL_law 34) (hr : meth.sig.returnType = (some .boolean)) (hlx : l.stackTraces = false) (hH : ∀ q : Nat, q < B → s.heap[q]? = H0[q]?) (hne : ∀ x ∈ c.exceptionTable.toList, False) (hH0 : H0.size = B) {Q : State → Prop} : ∀ (M : gMem) (kc : Nat) (kn : Nat) (x2 : Option Nat) (x3 : Option Nat) (x4 : Int32) (x5 : Int32) (x6 : Int32) (x7 : Int32) (x10 : Option Nat) (x12 : Option Nat) (x21 : Int32) (x23 : Int32) (x26 : Int32) (x27 : Int32) (z : (gMem × Nat × Nat × Int32 × Int32) ⊕ ((gMem × Nat × Nat × Int32) ⊕ ((Nat ⊕ Int32) × gMem))), b_L_law_1461 Z M kc kn x2 x3 x4 x5 x6 x7 x10 x12 x21 x23 x26 x27 = some z → (Sum.elim (fun (q : gMem × Nat × Nat × Int32 × Int32) => gGo p l e rL_law s m args below meth c D cy B H0 34 q.2.1 q.2.2.1 Q 1278 [(0, vR (some (Z 400))), (2, vR x2), (3, vR x3), (4, vI x4), (5, vI x5), (6, vI x6), (7, vI x7), (10, vR x10), (12, vR x12), (21, vI x21), (23, vI x23), (26, vI q.2.2.2.1), (27, vI q.2.2.2.2)] [] q.1) (Sum.elim (fun (q : gMem × Nat × Nat × Int32) => gGo p l e rL_law s m args below meth c D cy B H0 34 q.2.1 q.2.2.1 Q 59 [(0, vR (some (Z 400))), (2, vR x2), (3, vR x3), (4, vI x4), (5, vI x5), (6, vI x6), (7, vI q.2.2.2)] [] q.1) (fun (r : (Nat ⊕ Int32) × gMem) => Q = gMX below D cy B H0 args s 600086 7301442 (gzI r.1) r.2))) z → gGo p l e rL_law s m args below meth c D cy B H0 34 kc kn Q 1461 [(0, vR (some (Z 400))), (2, vR x2), (3, vR x3), (4, vI x4), (5, vI x5), (6, vI x6), (7, vI x7), (10, vR x10), (12, vR x12), (21, vI x21), (23, vI x23), (26, vI x26), (27, vI x27)] [] M := by
  intro M kc kn x2 x3 x4 x5 x6 x7 x10 x12 x21 x23 x26 x27 z hf hK
  unfold b_L_law_1461 at hf
  have X := gX_w X2
  refine g_iconst (v := (0 : Int32)) X dL_law_1461 (by decide) ?_
  refine g_istore (lv' := [(30, vI (0 : Int32)), (0, vR (some (Z 400))), (2, vR x2), (3, vR x3), (4, vI x4), (5, vI x5), (6, vI x6), (7, vI x7), (10, vR x10), (12, vR x12), (21, vI x21), (23, vI x23), (26, vI x26), (27, vI x27)]) X dL_law_1462 (by decide) rfl ?_
  refine g_sub (lvsub_of _ _ [1, 2, 3, 4, 5, 6, 7, 8, 9, 10, 11, 12, 13, 0] rfl) ?_
  exact tl_L_law_1464 X2 hr hlx hH hne hH0 _ _ _ _ _ _ _ _ _ _ _ _ _ _ _ _ _ hf hK
set_option maxHeartbeats 4000000 in
set_option maxRecDepth 100000 in
theorem t_L_law_1459 (X2 : gX p s m args meth c D cy B (gSt2 Z B H0) RL cL_law wsL_law 34) (hr : meth.sig.returnType = (some .boolean)) (hlx : l.stackTraces = false) (hH : ∀ q : Nat, q < B → s.heap[q]? = H0[q]?) (hne : ∀ x ∈ c.exceptionTable.toList, False) (hH0 : H0.size = B) {Q : State → Prop} : ∀ (M : gMem) (kc : Nat) (kn : Nat) (z : (Nat ⊕ Int32) × gMem), b_L_law_1459 Z M kc kn = some z → (fun (r : (Nat ⊕ Int32) × gMem) => Q = gMX below D cy B H0 args s 600086 7301442 (gzI r.1) r.2) z → gGo p l e rL_law s m args below meth c D cy B H0 34 kc kn Q 1459 [] [] M := by
  intro M kc kn z hf hK
  unfold b_L_law_1459 at hf
  have X := gX_w X2
  refine g_iconst (v := (0 : Int32)) X dL_law_1459 (by decide) ?_
  obtain ⟨hg36, hf⟩ := ck_e hf
  cases hf
  refine g_eqQ hK ?_
  refine g_wide (k' := 600086) (n' := 7301442) hg36.1 hg36.2 ?_
  refine g_xret ?_
  exact g_zret X hr (gnb (Or.inl rfl)) dL_law_1460
set_option maxHeartbeats 4000000 in
set_option maxRecDepth 100000 in
theorem t_L_law_1412 (X2 : gX p s m args meth c D cy B (gSt2 Z B H0) RL cL_law wsL_law 34) (hr : meth.sig.returnType = (some .boolean)) (hlx : l.stackTraces = false) (hH : ∀ q : Nat, q < B → s.heap[q]? = H0[q]?) (hne : ∀ x ∈ c.exceptionTable.toList, False) (hH0 : H0.size = B) {Q : State → Prop} : ∀ (M : gMem) (kc : Nat) (kn : Nat) (x2 : Option Nat) (x3 : Option Nat) (x4 : Int32) (x5 : Int32) (x6 : Int32) (x7 : Int32) (x10 : Option Nat) (x12 : Option Nat) (x21 : Int32) (x23 : Int32) (x26 : Int32) (x27 : Int32) (x29 : Int32) (s0 : Int32) (s1 : Int32) (s2 : Int32) (z : (gMem × Nat × Nat × Int32 × Int32) ⊕ ((gMem × Nat × Nat × Int32) ⊕ ((Nat ⊕ Int32) × gMem))), b_L_law_1412 Z M kc kn x2 x3 x4 x5 x6 x7 x10 x12 x21 x23 x26 x27 x29 s0 s1 s2 = some z → (Sum.elim (fun (q : gMem × Nat × Nat × Int32 × Int32) => gGo p l e rL_law s m args below meth c D cy B H0 34 q.2.1 q.2.2.1 Q 1278 [(0, vR (some (Z 400))), (2, vR x2), (3, vR x3), (4, vI x4), (5, vI x5), (6, vI x6), (7, vI x7), (10, vR x10), (12, vR x12), (21, vI x21), (23, vI x23), (26, vI q.2.2.2.1), (27, vI q.2.2.2.2)] [] q.1) (Sum.elim (fun (q : gMem × Nat × Nat × Int32) => gGo p l e rL_law s m args below meth c D cy B H0 34 q.2.1 q.2.2.1 Q 59 [(0, vR (some (Z 400))), (2, vR x2), (3, vR x3), (4, vI x4), (5, vI x5), (6, vI x6), (7, vI q.2.2.2)] [] q.1) (fun (r : (Nat ⊕ Int32) × gMem) => Q = gMX below D cy B H0 args s 600086 7301442 (gzI r.1) r.2))) z → gGo p l e rL_law s m args below meth c D cy B H0 34 kc kn Q 1412 [(0, vR (some (Z 400))), (2, vR x2), (3, vR x3), (4, vI x4), (5, vI x5), (6, vI x6), (7, vI x7), (10, vR x10), (12, vR x12), (21, vI x21), (23, vI x23), (26, vI x26), (27, vI x27), (29, vI x29)] [vI s2, vI s1, vI s0] M := by
  intro M kc kn x2 x3 x4 x5 x6 x7 x10 x12 x21 x23 x26 x27 x29 s0 s1 s2 z hf hK
  unfold b_L_law_1412 at hf
  have X := gX_w X2
  refine g_iadd X dL_law_1412 ?_
  refine g_icmp_ne (tgt := 1459) X dL_law_1413 (by decide) (fun hc => ?_) (fun hc => ?_)
  · have hf := ife_f hc hf
    obtain ⟨w37, hw37, hz37⟩ := oI_e hf
    subst hz37
    have hf := hw37
    obtain ⟨w38, hw38, hz38⟩ := oI_e hf
    subst hz38
    have hf := hw38
    refine g_sub (lvsub_of _ _ [] rfl) ?_
    exact t_L_law_1459 X2 hr hlx hH hne hH0 _ _ _ _ hf hK
  · have hf := ife_t hc hf
    refine g_aload_n X dL_law_1416 rfl rfl ?_
    refine g_iload X dL_law_1417 rfl ?_
    refine g_iconst (v := (4 : Int32)) X dL_law_1419 (by decide) ?_
    obtain ⟨a40, ha40, hf⟩ := dr_e hf
    obtain ⟨hT41, hf⟩ := ck_e hf
    obtain ⟨hg42, hf⟩ := ck_e hf
    rcases bx_e hf with ⟨e39, M39, hq39, hf⟩ | ⟨r39, M39, hq39, hf⟩
    · obtain ⟨w43, hw43, hz43⟩ := oI_e hf
      subst hz43
      have hf := hw43
      obtain ⟨w44, hw44, hz44⟩ := oI_e hf
      subst hz44
      have hf := hw44
      cases hf
      refine g_eqQ hK ?_
      exact g_callTV (ci := 9) (b := a40) (As := [vI x27, vI (4 : Int32)]) (st := []) (M1 := M39) X2 hne (m_X11_pact l hlx hH0 hq39) (cwV 2 X.2.2.1 gL_law_X11_pact rfl rfl rfl (by decide +kernel) ⟨Nat.le_of_ble_eq_true rfl, Nat.le_of_ble_eq_true rfl⟩) rfl rfl ha40 hT41 (by decide) rfl (Nat.le_of_ble_eq_true rfl) dL_law_1420 ⟨hg42.1, hg42.2⟩ hg42.1 hg42.2
    refine g_callXV (ci := 9) (b := a40) (As := [vI x27, vI (4 : Int32)]) (st := []) (v := some (vI r39)) (M1 := M39) X2 (m_X11_pact l hlx hH0 hq39) (cwV 2 X.2.2.1 gL_law_X11_pact rfl rfl rfl (by decide +kernel) ⟨Nat.le_of_ble_eq_true rfl, Nat.le_of_ble_eq_true rfl⟩) rfl rfl ha40 hT41 (by decide) rfl (Nat.le_of_ble_eq_true rfl) dL_law_1420 ⟨hg42.1, hg42.2⟩ ?_
    refine g_aload X dL_law_1423 rfl ?_
    refine g_iload X dL_law_1425 rfl ?_
    obtain ⟨a45, ha45, hf⟩ := dr_e hf
    obtain ⟨hT46, hf⟩ := ck_e hf
    obtain ⟨hg47, hf⟩ := ck_e hf
    refine g_aaldA X dL_law_1427 ha45 hT46 hg47 ?_
    refine g_iconst (v := (4 : Int32)) X dL_law_1428 (by decide) ?_
    obtain ⟨a48, ha48, hf⟩ := dr_e hf
    obtain ⟨hT49, hf⟩ := ck_e hf
    obtain ⟨hg50, hf⟩ := ck_e hf
    refine g_iald X dL_law_1429 ha48 hT49 hg50 ?_
    refine g_icmp_lt (tgt := 1459) X dL_law_1430 (by decide) (fun hc => ?_) (fun hc => ?_)
    · have hf := ife_t hc hf
      obtain ⟨w51, hw51, hz51⟩ := oI_e hf
      subst hz51
      have hf := hw51
      obtain ⟨w52, hw52, hz52⟩ := oI_e hf
      subst hz52
      have hf := hw52
      refine g_sub (lvsub_of _ _ [] rfl) ?_
      exact t_L_law_1459 X2 hr hlx hH hne hH0 _ _ _ _ hf hK
    · have hf := ife_f hc hf
      refine g_aload X dL_law_1433 rfl ?_
      refine g_iload X dL_law_1435 rfl ?_
      obtain ⟨hg53, hf⟩ := ck_e hf
      refine g_aaldA X dL_law_1437 ha45 hT46 hg53 ?_
      refine g_iconst (v := (0 : Int32)) X dL_law_1438 (by decide) ?_
      obtain ⟨hg54, hf⟩ := ck_e hf
      refine g_iald X dL_law_1439 ha48 hT49 hg54 ?_
      refine g_iconst (v := (1 : Int32)) X dL_law_1440 (by decide) ?_
      refine g_icmp_ne (tgt := 1461) X dL_law_1441 (by decide) (fun hc => ?_) (fun hc => ?_)
      · have hf := ife_f hc hf
        refine g_sub (lvsub_of _ _ [0, 1, 2, 3, 4, 5, 6, 7, 8, 9, 10, 11, 12] rfl) ?_
        exact t_L_law_1461 X2 hr hlx hH hne hH0 _ _ _ _ _ _ _ _ _ _ _ _ _ _ _ _ hf hK
      · have hf := ife_t hc hf
        refine g_aload_n X dL_law_1444 rfl rfl ?_
        refine g_iload X dL_law_1445 rfl ?_
        refine g_iconst (v := (4 : Int32)) X dL_law_1447 (by decide) ?_
        obtain ⟨hT56, hf⟩ := ck_e hf
        obtain ⟨hg57, hf⟩ := ck_e hf
        rcases bx_e hf with ⟨e55, M55, hq55, hf⟩ | ⟨r55, M55, hq55, hf⟩
        · obtain ⟨w58, hw58, hz58⟩ := oI_e hf
          subst hz58
          have hf := hw58
          obtain ⟨w59, hw59, hz59⟩ := oI_e hf
          subst hz59
          have hf := hw59
          cases hf
          refine g_eqQ hK ?_
          exact g_callTV (ci := 9) (b := a40) (As := [vI x27, vI (4 : Int32)]) (st := []) (M1 := M55) X2 hne (m_X11_pact l hlx hH0 hq55) (cwV 2 X.2.2.1 gL_law_X11_pact rfl rfl rfl (by decide +kernel) ⟨Nat.le_of_ble_eq_true rfl, Nat.le_of_ble_eq_true rfl⟩) rfl rfl ha40 hT56 (by decide) rfl (Nat.le_of_ble_eq_true rfl) dL_law_1448 ⟨hg57.1, hg57.2⟩ hg57.1 hg57.2
        refine g_callXV (ci := 9) (b := a40) (As := [vI x27, vI (4 : Int32)]) (st := []) (v := some (vI r55)) (M1 := M55) X2 (m_X11_pact l hlx hH0 hq55) (cwV 2 X.2.2.1 gL_law_X11_pact rfl rfl rfl (by decide +kernel) ⟨Nat.le_of_ble_eq_true rfl, Nat.le_of_ble_eq_true rfl⟩) rfl rfl ha40 hT56 (by decide) rfl (Nat.le_of_ble_eq_true rfl) dL_law_1448 ⟨hg57.1, hg57.2⟩ ?_
        refine g_if_ne (tgt := 1459) X dL_law_1451 (by decide) (fun hc => ?_) (fun hc => ?_)
        · have hf := ife_f hc hf
          obtain ⟨w60, hw60, hz60⟩ := oI_e hf
          subst hz60
          have hf := hw60
          obtain ⟨w61, hw61, hz61⟩ := oI_e hf
          subst hz61
          have hf := hw61
          refine g_sub (lvsub_of _ _ [] rfl) ?_
          exact t_L_law_1459 X2 hr hlx hH hne hH0 _ _ _ _ hf hK
        · have hf := ife_t hc hf
          refine g_iload X dL_law_1454 rfl ?_
          refine g_if_eq (tgt := 1461) X dL_law_1456 (by decide) (fun hc => ?_) (fun hc => ?_)
          · have hf := ife_t hc hf
            refine g_sub (lvsub_of _ _ [0, 1, 2, 3, 4, 5, 6, 7, 8, 9, 10, 11, 12] rfl) ?_
            exact t_L_law_1461 X2 hr hlx hH hne hH0 _ _ _ _ _ _ _ _ _ _ _ _ _ _ _ _ hf hK
          · have hf := ife_f hc hf
            obtain ⟨w62, hw62, hz62⟩ := oI_e hf
            subst hz62
            have hf := hw62
            obtain ⟨w63, hw63, hz63⟩ := oI_e hf
            subst hz63
            have hf := hw63
            refine g_sub (lvsub_of _ _ [] rfl) ?_
            exact t_L_law_1459 X2 hr hlx hH hne hH0 _ _ _ _ hf hK
set_option maxHeartbeats 4000000 in
set_option maxRecDepth 100000 in
theorem t_L_law_1386 (X2 : gX p s m args meth c D cy B (gSt2 Z B H0) RL cL_law wsL_law 34) (hr : meth.sig.returnType = (some .boolean)) (hlx : l.stackTraces = false) (hH : ∀ q : Nat, q < B → s.heap[q]? = H0[q]?) (hne : ∀ x ∈ c.exceptionTable.toList, False) (hH0 : H0.size = B) {Q : State → Prop} : ∀ (M : gMem) (kc : Nat) (kn : Nat) (x2 : Option Nat) (x3 : Option Nat) (x4 : Int32) (x5 : Int32) (x6 : Int32) (x7 : Int32) (x10 : Option Nat) (x12 : Option Nat) (x21 : Int32) (x23 : Int32) (x26 : Int32) (x27 : Int32) (x29 : Int32) (z : (gMem × Nat × Nat × Int32 × Int32) ⊕ ((gMem × Nat × Nat × Int32) ⊕ ((Nat ⊕ Int32) × gMem))), b_L_law_1386 Z M kc kn x2 x3 x4 x5 x6 x7 x10 x12 x21 x23 x26 x27 x29 = some z → (Sum.elim (fun (q : gMem × Nat × Nat × Int32 × Int32) => gGo p l e rL_law s m args below meth c D cy B H0 34 q.2.1 q.2.2.1 Q 1278 [(0, vR (some (Z 400))), (2, vR x2), (3, vR x3), (4, vI x4), (5, vI x5), (6, vI x6), (7, vI x7), (10, vR x10), (12, vR x12), (21, vI x21), (23, vI x23), (26, vI q.2.2.2.1), (27, vI q.2.2.2.2)] [] q.1) (Sum.elim (fun (q : gMem × Nat × Nat × Int32) => gGo p l e rL_law s m args below meth c D cy B H0 34 q.2.1 q.2.2.1 Q 59 [(0, vR (some (Z 400))), (2, vR x2), (3, vR x3), (4, vI x4), (5, vI x5), (6, vI x6), (7, vI q.2.2.2)] [] q.1) (fun (r : (Nat ⊕ Int32) × gMem) => Q = gMX below D cy B H0 args s 600086 7301442 (gzI r.1) r.2))) z → gGo p l e rL_law s m args below meth c D cy B H0 34 kc kn Q 1386 [(0, vR (some (Z 400))), (2, vR x2), (3, vR x3), (4, vI x4), (5, vI x5), (6, vI x6), (7, vI x7), (10, vR x10), (12, vR x12), (21, vI x21), (23, vI x23), (26, vI x26), (27, vI x27), (29, vI x29)] [] M := by
  intro M kc kn x2 x3 x4 x5 x6 x7 x10 x12 x21 x23 x26 x27 x29 z hf hK
  unfold b_L_law_1386 at hf
  have X := gX_w X2
  refine g_aload_n X dL_law_1386 rfl rfl ?_
  refine g_iload X dL_law_1387 rfl ?_
  refine g_bipush (v := (6 : Int32)) X dL_law_1389 (by decide) ?_
  obtain ⟨a65, ha65, hf⟩ := dr_e hf
  obtain ⟨hT66, hf⟩ := ck_e hf
  obtain ⟨hg67, hf⟩ := ck_e hf
  rcases bx_e hf with ⟨e64, M64, hq64, hf⟩ | ⟨r64, M64, hq64, hf⟩
  · obtain ⟨w68, hw68, hz68⟩ := oI_e hf
    subst hz68
    have hf := hw68
    obtain ⟨w69, hw69, hz69⟩ := oI_e hf
    subst hz69
    have hf := hw69
    cases hf
    refine g_eqQ hK ?_
    exact g_callTV (ci := 9) (b := a65) (As := [vI x27, vI (6 : Int32)]) (st := []) (M1 := M64) X2 hne (m_X11_pact l hlx hH0 hq64) (cwV 2 X.2.2.1 gL_law_X11_pact rfl rfl rfl (by decide +kernel) ⟨Nat.le_of_ble_eq_true rfl, Nat.le_of_ble_eq_true rfl⟩) rfl rfl ha65 hT66 (by decide) rfl (Nat.le_of_ble_eq_true rfl) dL_law_1391 ⟨hg67.1, hg67.2⟩ hg67.1 hg67.2
  refine g_callXV (ci := 9) (b := a65) (As := [vI x27, vI (6 : Int32)]) (st := []) (v := some (vI r64)) (M1 := M64) X2 (m_X11_pact l hlx hH0 hq64) (cwV 2 X.2.2.1 gL_law_X11_pact rfl rfl rfl (by decide +kernel) ⟨Nat.le_of_ble_eq_true rfl, Nat.le_of_ble_eq_true rfl⟩) rfl rfl ha65 hT66 (by decide) rfl (Nat.le_of_ble_eq_true rfl) dL_law_1391 ⟨hg67.1, hg67.2⟩ ?_
  refine g_aload X dL_law_1394 rfl ?_
  refine g_iload X dL_law_1396 rfl ?_
  obtain ⟨a70, ha70, hf⟩ := dr_e hf
  obtain ⟨hT71, hf⟩ := ck_e hf
  obtain ⟨hg72, hf⟩ := ck_e hf
  refine g_aaldA X dL_law_1398 ha70 hT71 hg72 ?_
  refine g_bipush (v := (6 : Int32)) X dL_law_1399 (by decide) ?_
  obtain ⟨a73, ha73, hf⟩ := dr_e hf
  obtain ⟨hT74, hf⟩ := ck_e hf
  obtain ⟨hg75, hf⟩ := ck_e hf
  refine g_iald X dL_law_1401 ha73 hT74 hg75 ?_
  refine g_iload X dL_law_1402 rfl ?_
  refine g_if_le (tgt := 1411) X dL_law_1404 (by decide) (fun hc => ?_) (fun hc => ?_)
  · have hf := ife_t hc hf
    refine g_iconst (v := (0 : Int32)) X dL_law_1411 (by decide) ?_
    refine g_sub (lvsub_of _ _ [0, 1, 2, 3, 4, 5, 6, 7, 8, 9, 10, 11, 12, 13] rfl) ?_
    exact t_L_law_1412 X2 hr hlx hH hne hH0 _ _ _ _ _ _ _ _ _ _ _ _ _ _ _ _ _ _ _ _ hf hK
  · have hf := ife_f hc hf
    refine g_iconst (v := (1 : Int32)) X dL_law_1407 (by decide) ?_
    refine g_goto (tgt := 1412) X dL_law_1408 (by decide) ?_
    refine g_sub (lvsub_of _ _ [0, 1, 2, 3, 4, 5, 6, 7, 8, 9, 10, 11, 12, 13] rfl) ?_
    exact t_L_law_1412 X2 hr hlx hH hne hH0 _ _ _ _ _ _ _ _ _ _ _ _ _ _ _ _ _ _ _ _ hf hK
set_option maxHeartbeats 4000000 in
set_option maxRecDepth 100000 in
theorem t_L_law_1338 (X2 : gX p s m args meth c D cy B (gSt2 Z B H0) RL cL_law wsL_law 34) (hr : meth.sig.returnType = (some .boolean)) (hlx : l.stackTraces = false) (hH : ∀ q : Nat, q < B → s.heap[q]? = H0[q]?) (hne : ∀ x ∈ c.exceptionTable.toList, False) (hH0 : H0.size = B) {Q : State → Prop} : ∀ (M : gMem) (kc : Nat) (kn : Nat) (x2 : Option Nat) (x3 : Option Nat) (x4 : Int32) (x5 : Int32) (x6 : Int32) (x7 : Int32) (x10 : Option Nat) (x12 : Option Nat) (x21 : Int32) (x23 : Int32) (x26 : Int32) (x27 : Int32) (x29 : Option Nat) (x30 : Int32) (x31 : Int32) (s0 : Int32) (s1 : Int32) (z : (gMem × Nat × Nat × Int32 × Int32) ⊕ ((gMem × Nat × Nat × Int32 × Int32) ⊕ ((gMem × Nat × Nat × Int32) ⊕ ((Nat ⊕ Int32) × gMem)))), b_L_law_1338 Z M kc kn x2 x3 x4 x5 x6 x7 x10 x12 x21 x23 x26 x27 x29 x30 x31 s0 s1 = some z → (Sum.elim (fun (q : gMem × Nat × Nat × Int32 × Int32) => gGo p l e rL_law s m args below meth c D cy B H0 34 q.2.1 q.2.2.1 Q 1305 [(0, vR (some (Z 400))), (2, vR x2), (3, vR x3), (4, vI x4), (5, vI x5), (6, vI x6), (7, vI x7), (10, vR x10), (12, vR x12), (21, vI x21), (23, vI x23), (26, vI x26), (27, vI x27), (28, vI q.2.2.2.1), (29, vR x29), (30, vI x30), (31, vI q.2.2.2.2)] [] q.1) (Sum.elim (fun (q : gMem × Nat × Nat × Int32 × Int32) => gGo p l e rL_law s m args below meth c D cy B H0 34 q.2.1 q.2.2.1 Q 1278 [(0, vR (some (Z 400))), (2, vR x2), (3, vR x3), (4, vI x4), (5, vI x5), (6, vI x6), (7, vI x7), (10, vR x10), (12, vR x12), (21, vI x21), (23, vI x23), (26, vI q.2.2.2.1), (27, vI q.2.2.2.2)] [] q.1) (Sum.elim (fun (q : gMem × Nat × Nat × Int32) => gGo p l e rL_law s m args below meth c D cy B H0 34 q.2.1 q.2.2.1 Q 59 [(0, vR (some (Z 400))), (2, vR x2), (3, vR x3), (4, vI x4), (5, vI x5), (6, vI x6), (7, vI q.2.2.2)] [] q.1) (fun (r : (Nat ⊕ Int32) × gMem) => Q = gMX below D cy B H0 args s 600086 7301442 (gzI r.1) r.2)))) z → gGo p l e rL_law s m args below meth c D cy B H0 34 kc kn Q 1338 [(0, vR (some (Z 400))), (2, vR x2), (3, vR x3), (4, vI x4), (5, vI x5), (6, vI x6), (7, vI x7), (10, vR x10), (12, vR x12), (21, vI x21), (23, vI x23), (26, vI x26), (27, vI x27), (29, vR x29), (30, vI x30), (31, vI x31)] [vI s1, vI s0] M := by
  intro M kc kn x2 x3 x4 x5 x6 x7 x10 x12 x21 x23 x26 x27 x29 x30 x31 s0 s1 z hf hK
  unfold b_L_law_1338 at hf
  have X := gX_w X2
  refine g_ior X dL_law_1338 ?_
  refine g_istore (lv' := [(28, vI (s0 ||| s1)), (0, vR (some (Z 400))), (2, vR x2), (3, vR x3), (4, vI x4), (5, vI x5), (6, vI x6), (7, vI x7), (10, vR x10), (12, vR x12), (21, vI x21), (23, vI x23), (26, vI x26), (27, vI x27), (29, vR x29), (30, vI x30), (31, vI x31)]) X dL_law_1339 (by decide) rfl ?_
  refine g_iinc (v := (1 : Int32)) (lv' := [(31, vI (x31 + (1 : Int32))), (28, vI (s0 ||| s1)), (0, vR (some (Z 400))), (2, vR x2), (3, vR x3), (4, vI x4), (5, vI x5), (6, vI x6), (7, vI x7), (10, vR x10), (12, vR x12), (21, vI x21), (23, vI x23), (26, vI x26), (27, vI x27), (29, vR x29), (30, vI x30)]) X dL_law_1341 rfl (by decide) (by decide) rfl ?_
  refine g_goto (tgt := 1305) X dL_law_1344 (by decide) ?_
  cases hf
  refine g_sub (lvsub_of _ _ [2, 3, 4, 5, 6, 7, 8, 9, 10, 11, 12, 13, 14, 1, 15, 16, 0] rfl) ?_
  exact hK
set_option maxHeartbeats 4000000 in
set_option maxRecDepth 100000 in
theorem tb_L_law_1305 (X2 : gX p s m args meth c D cy B (gSt2 Z B H0) RL cL_law wsL_law 34) (hr : meth.sig.returnType = (some .boolean)) (hlx : l.stackTraces = false) (hH : ∀ q : Nat, q < B → s.heap[q]? = H0[q]?) (hne : ∀ x ∈ c.exceptionTable.toList, False) (hH0 : H0.size = B) {Q : State → Prop} : ∀ (M : gMem) (kc : Nat) (kn : Nat) (x2 : Option Nat) (x3 : Option Nat) (x4 : Int32) (x5 : Int32) (x6 : Int32) (x7 : Int32) (x10 : Option Nat) (x12 : Option Nat) (x21 : Int32) (x23 : Int32) (x26 : Int32) (x27 : Int32) (x28 : Int32) (x29 : Option Nat) (x30 : Int32) (x31 : Int32) (z : (gMem × Nat × Nat × Int32 × Int32) ⊕ ((gMem × Nat × Nat × Int32 × Int32) ⊕ ((gMem × Nat × Nat × Int32) ⊕ ((Nat ⊕ Int32) × gMem)))), bb_L_law_1305 Z M kc kn x2 x3 x4 x5 x6 x7 x10 x12 x21 x23 x26 x27 x28 x29 x30 x31 = some z → (Sum.elim (fun (q : gMem × Nat × Nat × Int32 × Int32) => gGo p l e rL_law s m args below meth c D cy B H0 34 q.2.1 q.2.2.1 Q 1305 [(0, vR (some (Z 400))), (2, vR x2), (3, vR x3), (4, vI x4), (5, vI x5), (6, vI x6), (7, vI x7), (10, vR x10), (12, vR x12), (21, vI x21), (23, vI x23), (26, vI x26), (27, vI x27), (28, vI q.2.2.2.1), (29, vR x29), (30, vI x30), (31, vI q.2.2.2.2)] [] q.1) (Sum.elim (fun (q : gMem × Nat × Nat × Int32 × Int32) => gGo p l e rL_law s m args below meth c D cy B H0 34 q.2.1 q.2.2.1 Q 1278 [(0, vR (some (Z 400))), (2, vR x2), (3, vR x3), (4, vI x4), (5, vI x5), (6, vI x6), (7, vI x7), (10, vR x10), (12, vR x12), (21, vI x21), (23, vI x23), (26, vI q.2.2.2.1), (27, vI q.2.2.2.2)] [] q.1) (Sum.elim (fun (q : gMem × Nat × Nat × Int32) => gGo p l e rL_law s m args below meth c D cy B H0 34 q.2.1 q.2.2.1 Q 59 [(0, vR (some (Z 400))), (2, vR x2), (3, vR x3), (4, vI x4), (5, vI x5), (6, vI x6), (7, vI q.2.2.2)] [] q.1) (fun (r : (Nat ⊕ Int32) × gMem) => Q = gMX below D cy B H0 args s 600086 7301442 (gzI r.1) r.2)))) z → gGo p l e rL_law s m args below meth c D cy B H0 34 kc kn Q 1305 [(0, vR (some (Z 400))), (2, vR x2), (3, vR x3), (4, vI x4), (5, vI x5), (6, vI x6), (7, vI x7), (10, vR x10), (12, vR x12), (21, vI x21), (23, vI x23), (26, vI x26), (27, vI x27), (28, vI x28), (29, vR x29), (30, vI x30), (31, vI x31)] [] M := by
  intro M kc kn x2 x3 x4 x5 x6 x7 x10 x12 x21 x23 x26 x27 x28 x29 x30 x31 z hf hK
  unfold bb_L_law_1305 at hf
  have X := gX_w X2
  refine g_iload X dL_law_1305 rfl ?_
  refine g_iload X dL_law_1307 rfl ?_
  refine g_icmp_ge (tgt := 1347) X dL_law_1309 (by decide) (fun hc => ?_) (fun hc => ?_)
  · have hf := ife_t hc hf
    refine g_aload_n X dL_law_1347 rfl rfl ?_
    refine g_iload X dL_law_1348 rfl ?_
    refine g_iconst (v := (5 : Int32)) X dL_law_1350 (by decide) ?_
    obtain ⟨a77, ha77, hf⟩ := dr_e hf
    obtain ⟨hT78, hf⟩ := ck_e hf
    obtain ⟨hg79, hf⟩ := ck_e hf
    rcases bx_e hf with ⟨e76, M76, hq76, hf⟩ | ⟨r76, M76, hq76, hf⟩
    · obtain ⟨w80, hw80, hz80⟩ := oI_e hf
      subst hz80
      have hf := hw80
      obtain ⟨w81, hw81, hz81⟩ := oI_e hf
      subst hz81
      have hf := hw81
      obtain ⟨w82, hw82, hz82⟩ := oI_e hf
      subst hz82
      have hf := hw82
      cases hf
      refine g_eqQ hK ?_
      exact g_callTV (ci := 9) (b := a77) (As := [vI x27, vI (5 : Int32)]) (st := []) (M1 := M76) X2 hne (m_X11_pact l hlx hH0 hq76) (cwV 2 X.2.2.1 gL_law_X11_pact rfl rfl rfl (by decide +kernel) ⟨Nat.le_of_ble_eq_true rfl, Nat.le_of_ble_eq_true rfl⟩) rfl rfl ha77 hT78 (by decide) rfl (Nat.le_of_ble_eq_true rfl) dL_law_1351 ⟨hg79.1, hg79.2⟩ hg79.1 hg79.2
    refine g_callXV (ci := 9) (b := a77) (As := [vI x27, vI (5 : Int32)]) (st := []) (v := some (vI r76)) (M1 := M76) X2 (m_X11_pact l hlx hH0 hq76) (cwV 2 X.2.2.1 gL_law_X11_pact rfl rfl rfl (by decide +kernel) ⟨Nat.le_of_ble_eq_true rfl, Nat.le_of_ble_eq_true rfl⟩) rfl rfl ha77 hT78 (by decide) rfl (Nat.le_of_ble_eq_true rfl) dL_law_1351 ⟨hg79.1, hg79.2⟩ ?_
    refine g_aload X dL_law_1354 rfl ?_
    refine g_iload X dL_law_1356 rfl ?_
    obtain ⟨a83, ha83, hf⟩ := dr_e hf
    obtain ⟨hT84, hf⟩ := ck_e hf
    obtain ⟨hg85, hf⟩ := ck_e hf
    refine g_aaldA X dL_law_1358 ha83 hT84 hg85 ?_
    refine g_iconst (v := (5 : Int32)) X dL_law_1359 (by decide) ?_
    obtain ⟨a86, ha86, hf⟩ := dr_e hf
    obtain ⟨hT87, hf⟩ := ck_e hf
    obtain ⟨hg88, hf⟩ := ck_e hf
    refine g_iald X dL_law_1360 ha86 hT87 hg88 ?_
    refine g_isub X dL_law_1361 ?_
    refine g_istore (lv' := [(29, vI (r76 - (mI M76 a86 ((5 : Int32)).toNatClampNeg))), (0, vR (some (Z 400))), (2, vR x2), (3, vR x3), (4, vI x4), (5, vI x5), (6, vI x6), (7, vI x7), (10, vR x10), (12, vR x12), (21, vI x21), (23, vI x23), (26, vI x26), (27, vI x27), (28, vI x28), (30, vI x30), (31, vI x31)]) X dL_law_1362 (by decide) rfl ?_
    refine g_iload X dL_law_1364 rfl ?_
    refine g_iload X dL_law_1366 rfl ?_
    refine g_iadd X dL_law_1368 ?_
    refine g_istore (lv' := [(26, vI (x26 + (r76 - (mI M76 a86 ((5 : Int32)).toNatClampNeg)))), (29, vI (r76 - (mI M76 a86 ((5 : Int32)).toNatClampNeg))), (0, vR (some (Z 400))), (2, vR x2), (3, vR x3), (4, vI x4), (5, vI x5), (6, vI x6), (7, vI x7), (10, vR x10), (12, vR x12), (21, vI x21), (23, vI x23), (27, vI x27), (28, vI x28), (30, vI x30), (31, vI x31)]) X dL_law_1369 (by decide) rfl ?_
    refine g_iload X dL_law_1371 rfl ?_
    refine g_if_lt (tgt := 1459) X dL_law_1373 (by decide) (fun hc => ?_) (fun hc => ?_)
    · have hf := ife_t hc hf
      obtain ⟨w89, hw89, hz89⟩ := oI_e hf
      subst hz89
      have hf := hw89
      obtain ⟨w90, hw90, hz90⟩ := oI_e hf
      subst hz90
      have hf := hw90
      obtain ⟨w91, hw91, hz91⟩ := oI_e hf
      subst hz91
      have hf := hw91
      refine g_sub (lvsub_of _ _ [] rfl) ?_
      exact t_L_law_1459 X2 hr hlx hH hne hH0 _ _ _ _ hf hK
    · have hf := ife_f hc hf
      refine g_iload X dL_law_1376 rfl ?_
      refine g_if_le (tgt := 1386) X dL_law_1378 (by decide) (fun hc => ?_) (fun hc => ?_)
      · have hf := ife_t hc hf
        obtain ⟨w92, hw92, hz92⟩ := oI_e hf
        subst hz92
        have hf := hw92
        refine g_sub (lvsub_of _ _ [2, 3, 4, 5, 6, 7, 8, 9, 10, 11, 12, 0, 13, 1] rfl) ?_
        exact t_L_law_1386 X2 hr hlx hH hne hH0 _ _ _ _ _ _ _ _ _ _ _ _ _ _ _ _ _ hf hK
      · have hf := ife_f hc hf
        refine g_iload X dL_law_1381 rfl ?_
        refine g_if_eq (tgt := 1459) X dL_law_1383 (by decide) (fun hc => ?_) (fun hc => ?_)
        · have hf := ife_t hc hf
          obtain ⟨w93, hw93, hz93⟩ := oI_e hf
          subst hz93
          have hf := hw93
          obtain ⟨w94, hw94, hz94⟩ := oI_e hf
          subst hz94
          have hf := hw94
          obtain ⟨w95, hw95, hz95⟩ := oI_e hf
          subst hz95
          have hf := hw95
          refine g_sub (lvsub_of _ _ [] rfl) ?_
          exact t_L_law_1459 X2 hr hlx hH hne hH0 _ _ _ _ hf hK
        · have hf := ife_f hc hf
          obtain ⟨w96, hw96, hz96⟩ := oI_e hf
          subst hz96
          have hf := hw96
          refine g_sub (lvsub_of _ _ [2, 3, 4, 5, 6, 7, 8, 9, 10, 11, 12, 0, 13, 1] rfl) ?_
          exact t_L_law_1386 X2 hr hlx hH hne hH0 _ _ _ _ _ _ _ _ _ _ _ _ _ _ _ _ _ hf hK
  · have hf := ife_f hc hf
    refine g_aload X dL_law_1312 rfl ?_
    refine g_iload X dL_law_1314 rfl ?_
    obtain ⟨a97, ha97, hf⟩ := dr_e hf
    obtain ⟨hT98, hf⟩ := ck_e hf
    obtain ⟨hg99, hf⟩ := ck_e hf
    refine g_iald X dL_law_1316 ha97 hT98 hg99 ?_
    refine g_istore (lv' := [(32, vI (mI M a97 x31.toNatClampNeg)), (0, vR (some (Z 400))), (2, vR x2), (3, vR x3), (4, vI x4), (5, vI x5), (6, vI x6), (7, vI x7), (10, vR x10), (12, vR x12), (21, vI x21), (23, vI x23), (26, vI x26), (27, vI x27), (28, vI x28), (29, vR x29), (30, vI x30), (31, vI x31)]) X dL_law_1317 (by decide) rfl ?_
    refine g_iload X dL_law_1319 rfl ?_
    refine g_aload X dL_law_1321 rfl ?_
    refine g_iload X dL_law_1323 rfl ?_
    obtain ⟨a100, ha100, hf⟩ := dr_e hf
    obtain ⟨hT101, hf⟩ := ck_e hf
    obtain ⟨hg102, hf⟩ := ck_e hf
    refine g_aaldA X dL_law_1325 ha100 hT101 hg102 ?_
    refine g_bipush (v := (8 : Int32)) X dL_law_1326 (by decide) ?_
    obtain ⟨a103, ha103, hf⟩ := dr_e hf
    obtain ⟨hT104, hf⟩ := ck_e hf
    obtain ⟨hg105, hf⟩ := ck_e hf
    refine g_iald X dL_law_1328 ha103 hT104 hg105 ?_
    refine g_iconst (v := (1 : Int32)) X dL_law_1329 (by decide) ?_
    refine g_icmp_ne (tgt := 1337) X dL_law_1330 (by decide) (fun hc => ?_) (fun hc => ?_)
    · have hf := ife_f hc hf
      refine g_iconst (v := (0 : Int32)) X dL_law_1337 (by decide) ?_
      refine g_sub (lvsub_of _ _ [1, 2, 3, 4, 5, 6, 7, 8, 9, 10, 11, 12, 13, 15, 16, 17] rfl) ?_
      exact t_L_law_1338 X2 hr hlx hH hne hH0 _ _ _ _ _ _ _ _ _ _ _ _ _ _ _ _ _ _ _ _ _ hf hK
    · have hf := ife_t hc hf
      refine g_iconst (v := (1 : Int32)) X dL_law_1333 (by decide) ?_
      refine g_goto (tgt := 1338) X dL_law_1334 (by decide) ?_
      refine g_sub (lvsub_of _ _ [1, 2, 3, 4, 5, 6, 7, 8, 9, 10, 11, 12, 13, 15, 16, 17] rfl) ?_
      exact t_L_law_1338 X2 hr hlx hH hne hH0 _ _ _ _ _ _ _ _ _ _ _ _ _ _ _ _ _ _ _ _ _ hf hK
set_option maxHeartbeats 4000000 in
set_option maxRecDepth 100000 in
theorem tl_L_law_1305 (X2 : gX p s m args meth c D cy B (gSt2 Z B H0) RL cL_law wsL_law 34) (hr : meth.sig.returnType = (some .boolean)) (hlx : l.stackTraces = false) (hH : ∀ q : Nat, q < B → s.heap[q]? = H0[q]?) (hne : ∀ x ∈ c.exceptionTable.toList, False) (hH0 : H0.size = B) {Q : State → Prop} : ∀ (M : gMem) (kc : Nat) (kn : Nat) (x2 : Option Nat) (x3 : Option Nat) (x4 : Int32) (x5 : Int32) (x6 : Int32) (x7 : Int32) (x10 : Option Nat) (x12 : Option Nat) (x21 : Int32) (x23 : Int32) (x26 : Int32) (x27 : Int32) (x28 : Int32) (x29 : Option Nat) (x30 : Int32) (x31 : Int32) (z : (gMem × Nat × Nat × Int32 × Int32) ⊕ ((gMem × Nat × Nat × Int32) ⊕ ((Nat ⊕ Int32) × gMem))), lp_L_law_1305 Z M kc kn x2 x3 x4 x5 x6 x7 x10 x12 x21 x23 x26 x27 x28 x29 x30 x31 = some z → (Sum.elim (fun (q : gMem × Nat × Nat × Int32 × Int32) => gGo p l e rL_law s m args below meth c D cy B H0 34 q.2.1 q.2.2.1 Q 1278 [(0, vR (some (Z 400))), (2, vR x2), (3, vR x3), (4, vI x4), (5, vI x5), (6, vI x6), (7, vI x7), (10, vR x10), (12, vR x12), (21, vI x21), (23, vI x23), (26, vI q.2.2.2.1), (27, vI q.2.2.2.2)] [] q.1) (Sum.elim (fun (q : gMem × Nat × Nat × Int32) => gGo p l e rL_law s m args below meth c D cy B H0 34 q.2.1 q.2.2.1 Q 59 [(0, vR (some (Z 400))), (2, vR x2), (3, vR x3), (4, vI x4), (5, vI x5), (6, vI x6), (7, vI q.2.2.2)] [] q.1) (fun (r : (Nat ⊕ Int32) × gMem) => Q = gMX below D cy B H0 args s 600086 7301442 (gzI r.1) r.2))) z → gGo p l e rL_law s m args below meth c D cy B H0 34 kc kn Q 1305 [(0, vR (some (Z 400))), (2, vR x2), (3, vR x3), (4, vI x4), (5, vI x5), (6, vI x6), (7, vI x7), (10, vR x10), (12, vR x12), (21, vI x21), (23, vI x23), (26, vI x26), (27, vI x27), (28, vI x28), (29, vR x29), (30, vI x30), (31, vI x31)] [] M := by
  intro M kc kn x2 x3 x4 x5 x6 x7 x10 x12 x21 x23 x26 x27 x28 x29 x30 x31 z hf hK
  refine lp_ind (P := (fun (q : gMem × Nat × Nat × Int32 × Int32) (z : (gMem × Nat × Nat × Int32 × Int32) ⊕ ((gMem × Nat × Nat × Int32) ⊕ ((Nat ⊕ Int32) × gMem))) => (Sum.elim (fun (q : gMem × Nat × Nat × Int32 × Int32) => gGo p l e rL_law s m args below meth c D cy B H0 34 q.2.1 q.2.2.1 Q 1278 [(0, vR (some (Z 400))), (2, vR x2), (3, vR x3), (4, vI x4), (5, vI x5), (6, vI x6), (7, vI x7), (10, vR x10), (12, vR x12), (21, vI x21), (23, vI x23), (26, vI q.2.2.2.1), (27, vI q.2.2.2.2)] [] q.1) (Sum.elim (fun (q : gMem × Nat × Nat × Int32) => gGo p l e rL_law s m args below meth c D cy B H0 34 q.2.1 q.2.2.1 Q 59 [(0, vR (some (Z 400))), (2, vR x2), (3, vR x3), (4, vI x4), (5, vI x5), (6, vI x6), (7, vI q.2.2.2)] [] q.1) (fun (r : (Nat ⊕ Int32) × gMem) => Q = gMX below D cy B H0 args s 600086 7301442 (gzI r.1) r.2))) z → gGo p l e rL_law s m args below meth c D cy B H0 34 q.2.1 q.2.2.1 Q 1305 [(0, vR (some (Z 400))), (2, vR x2), (3, vR x3), (4, vI x4), (5, vI x5), (6, vI x6), (7, vI x7), (10, vR x10), (12, vR x12), (21, vI x21), (23, vI x23), (26, vI x26), (27, vI x27), (28, vI q.2.2.2.1), (29, vR x29), (30, vI x30), (31, vI q.2.2.2.2)] [] q.1)) (fun q z hq => ?_) _ _ hf hK
  intro hK
  obtain ⟨w, hw, hm⟩ := hq
  refine tb_L_law_1305 X2 hr hlx hH hne hH0 _ _ _ _ _ _ _ _ _ _ _ _ _ _ _ _ _ _ _ w hw ?_
  cases w with
  | inl a => exact hm hK
  | inr b => cases hm; exact hK
set_option maxHeartbeats 4000000 in
set_option maxRecDepth 100000 in
theorem tb_L_law_1278 (X2 : gX p s m args meth c D cy B (gSt2 Z B H0) RL cL_law wsL_law 34) (hr : meth.sig.returnType = (some .boolean)) (hlx : l.stackTraces = false) (hH : ∀ q : Nat, q < B → s.heap[q]? = H0[q]?) (hne : ∀ x ∈ c.exceptionTable.toList, False) (hH0 : H0.size = B) {Q : State → Prop} : ∀ (M : gMem) (kc : Nat) (kn : Nat) (x2 : Option Nat) (x3 : Option Nat) (x4 : Int32) (x5 : Int32) (x6 : Int32) (x7 : Int32) (x10 : Option Nat) (x12 : Option Nat) (x21 : Int32) (x23 : Int32) (x26 : Int32) (x27 : Int32) (z : (gMem × Nat × Nat × Int32 × Int32) ⊕ ((gMem × Nat × Nat × Int32) ⊕ ((Nat ⊕ Int32) × gMem))), bb_L_law_1278 Z M kc kn x2 x3 x4 x5 x6 x7 x10 x12 x21 x23 x26 x27 = some z → (Sum.elim (fun (q : gMem × Nat × Nat × Int32 × Int32) => gGo p l e rL_law s m args below meth c D cy B H0 34 q.2.1 q.2.2.1 Q 1278 [(0, vR (some (Z 400))), (2, vR x2), (3, vR x3), (4, vI x4), (5, vI x5), (6, vI x6), (7, vI x7), (10, vR x10), (12, vR x12), (21, vI x21), (23, vI x23), (26, vI q.2.2.2.1), (27, vI q.2.2.2.2)] [] q.1) (Sum.elim (fun (q : gMem × Nat × Nat × Int32) => gGo p l e rL_law s m args below meth c D cy B H0 34 q.2.1 q.2.2.1 Q 59 [(0, vR (some (Z 400))), (2, vR x2), (3, vR x3), (4, vI x4), (5, vI x5), (6, vI x6), (7, vI q.2.2.2)] [] q.1) (fun (r : (Nat ⊕ Int32) × gMem) => Q = gMX below D cy B H0 args s 600086 7301442 (gzI r.1) r.2))) z → gGo p l e rL_law s m args below meth c D cy B H0 34 kc kn Q 1278 [(0, vR (some (Z 400))), (2, vR x2), (3, vR x3), (4, vI x4), (5, vI x5), (6, vI x6), (7, vI x7), (10, vR x10), (12, vR x12), (21, vI x21), (23, vI x23), (26, vI x26), (27, vI x27)] [] M := by
  intro M kc kn x2 x3 x4 x5 x6 x7 x10 x12 x21 x23 x26 x27 z hf hK
  unfold bb_L_law_1278 at hf
  have X := gX_w X2
  refine g_iload X dL_law_1278 rfl ?_
  refine g_iload X dL_law_1280 rfl ?_
  refine g_icmp_ge (tgt := 1503) X dL_law_1282 (by decide) (fun hc => ?_) (fun hc => ?_)
  · have hf := ife_t hc hf
    refine g_iconst (v := (0 : Int32)) X dL_law_1503 (by decide) ?_
    refine g_istore (lv' := [(27, vI (0 : Int32)), (0, vR (some (Z 400))), (2, vR x2), (3, vR x3), (4, vI x4), (5, vI x5), (6, vI x6), (7, vI x7), (10, vR x10), (12, vR x12), (21, vI x21), (23, vI x23), (26, vI x26)]) X dL_law_1504 (by decide) rfl ?_
    refine g_iconst (v := (0 : Int32)) X dL_law_1506 (by decide) ?_
    refine g_istore (lv' := [(28, vI (0 : Int32)), (27, vI (0 : Int32)), (0, vR (some (Z 400))), (2, vR x2), (3, vR x3), (4, vI x4), (5, vI x5), (6, vI x6), (7, vI x7), (10, vR x10), (12, vR x12), (21, vI x21), (23, vI x23), (26, vI x26)]) X dL_law_1507 (by decide) rfl ?_
    obtain ⟨w106, hw106, hz106⟩ := oI_e hf
    subst hz106
    have hf := hw106
    refine g_sub (lvsub_of _ _ [2, 3, 4, 5, 6, 7, 8, 11, 12, 13, 1, 0] rfl) ?_
    exact tl_L_law_1509 X2 hr hlx hH hne hH0 _ _ _ _ _ _ _ _ _ _ _ _ _ _ _ hf hK
  · have hf := ife_f hc hf
    refine g_iconst (v := (0 : Int32)) X dL_law_1285 (by decide) ?_
    refine g_istore (lv' := [(28, vI (0 : Int32)), (0, vR (some (Z 400))), (2, vR x2), (3, vR x3), (4, vI x4), (5, vI x5), (6, vI x6), (7, vI x7), (10, vR x10), (12, vR x12), (21, vI x21), (23, vI x23), (26, vI x26), (27, vI x27)]) X dL_law_1286 (by decide) rfl ?_
    refine g_aload_n X dL_law_1288 rfl rfl ?_
    obtain ⟨a107, ha107, hf⟩ := dr_e hf
    obtain ⟨hT108, hf⟩ := ck_e hf
    refine g_get (ci := 10) (v := vR (mR M a107 7)) 7 X cdX12 i_L_law_X12 (by decide) k_L_law_f181 rfl dL_law_1289 ha107 hT108 rfl ?_
    refine g_iload X dL_law_1292 rfl ?_
    obtain ⟨a109, ha109, hf⟩ := dr_e hf
    obtain ⟨hT110, hf⟩ := ck_e hf
    obtain ⟨hg111, hf⟩ := ck_e hf
    refine g_aaldA X dL_law_1294 ha109 hT110 hg111 ?_
    refine g_astore (lv' := [(29, vR (mR M a109 x27.toNatClampNeg)), (28, vI (0 : Int32)), (0, vR (some (Z 400))), (2, vR x2), (3, vR x3), (4, vI x4), (5, vI x5), (6, vI x6), (7, vI x7), (10, vR x10), (12, vR x12), (21, vI x21), (23, vI x23), (26, vI x26), (27, vI x27)]) X dL_law_1295 (by decide) rfl ?_
    refine g_aload X dL_law_1297 rfl ?_
    obtain ⟨a112, ha112, hf⟩ := dr_e hf
    obtain ⟨hT113, hf⟩ := ck_e hf
    refine g_alen (t0 := 0) X dL_law_1299 ha112 hT113 (by decide) rfl ?_
    refine g_istore (lv' := [(30, vI (Int32.ofNat (mL M a112))), (29, vR (mR M a109 x27.toNatClampNeg)), (28, vI (0 : Int32)), (0, vR (some (Z 400))), (2, vR x2), (3, vR x3), (4, vI x4), (5, vI x5), (6, vI x6), (7, vI x7), (10, vR x10), (12, vR x12), (21, vI x21), (23, vI x23), (26, vI x26), (27, vI x27)]) X dL_law_1300 (by decide) rfl ?_
    refine g_iconst (v := (0 : Int32)) X dL_law_1302 (by decide) ?_
    refine g_istore (lv' := [(31, vI (0 : Int32)), (30, vI (Int32.ofNat (mL M a112))), (29, vR (mR M a109 x27.toNatClampNeg)), (28, vI (0 : Int32)), (0, vR (some (Z 400))), (2, vR x2), (3, vR x3), (4, vI x4), (5, vI x5), (6, vI x6), (7, vI x7), (10, vR x10), (12, vR x12), (21, vI x21), (23, vI x23), (26, vI x26), (27, vI x27)]) X dL_law_1303 (by decide) rfl ?_
    refine g_sub (lvsub_of _ _ [4, 5, 6, 7, 8, 9, 10, 11, 12, 13, 14, 15, 16, 3, 2, 1, 0] rfl) ?_
    exact tl_L_law_1305 X2 hr hlx hH hne hH0 _ _ _ _ _ _ _ _ _ _ _ _ _ _ _ _ _ _ _ _ hf hK
set_option maxHeartbeats 4000000 in
set_option maxRecDepth 100000 in
theorem tl_L_law_1278 (X2 : gX p s m args meth c D cy B (gSt2 Z B H0) RL cL_law wsL_law 34) (hr : meth.sig.returnType = (some .boolean)) (hlx : l.stackTraces = false) (hH : ∀ q : Nat, q < B → s.heap[q]? = H0[q]?) (hne : ∀ x ∈ c.exceptionTable.toList, False) (hH0 : H0.size = B) {Q : State → Prop} : ∀ (M : gMem) (kc : Nat) (kn : Nat) (x2 : Option Nat) (x3 : Option Nat) (x4 : Int32) (x5 : Int32) (x6 : Int32) (x7 : Int32) (x10 : Option Nat) (x12 : Option Nat) (x21 : Int32) (x23 : Int32) (x26 : Int32) (x27 : Int32) (z : (gMem × Nat × Nat × Int32) ⊕ ((Nat ⊕ Int32) × gMem)), lp_L_law_1278 Z M kc kn x2 x3 x4 x5 x6 x7 x10 x12 x21 x23 x26 x27 = some z → (Sum.elim (fun (q : gMem × Nat × Nat × Int32) => gGo p l e rL_law s m args below meth c D cy B H0 34 q.2.1 q.2.2.1 Q 59 [(0, vR (some (Z 400))), (2, vR x2), (3, vR x3), (4, vI x4), (5, vI x5), (6, vI x6), (7, vI q.2.2.2)] [] q.1) (fun (r : (Nat ⊕ Int32) × gMem) => Q = gMX below D cy B H0 args s 600086 7301442 (gzI r.1) r.2)) z → gGo p l e rL_law s m args below meth c D cy B H0 34 kc kn Q 1278 [(0, vR (some (Z 400))), (2, vR x2), (3, vR x3), (4, vI x4), (5, vI x5), (6, vI x6), (7, vI x7), (10, vR x10), (12, vR x12), (21, vI x21), (23, vI x23), (26, vI x26), (27, vI x27)] [] M := by
  intro M kc kn x2 x3 x4 x5 x6 x7 x10 x12 x21 x23 x26 x27 z hf hK
  refine lp_ind (P := (fun (q : gMem × Nat × Nat × Int32 × Int32) (z : (gMem × Nat × Nat × Int32) ⊕ ((Nat ⊕ Int32) × gMem)) => (Sum.elim (fun (q : gMem × Nat × Nat × Int32) => gGo p l e rL_law s m args below meth c D cy B H0 34 q.2.1 q.2.2.1 Q 59 [(0, vR (some (Z 400))), (2, vR x2), (3, vR x3), (4, vI x4), (5, vI x5), (6, vI x6), (7, vI q.2.2.2)] [] q.1) (fun (r : (Nat ⊕ Int32) × gMem) => Q = gMX below D cy B H0 args s 600086 7301442 (gzI r.1) r.2)) z → gGo p l e rL_law s m args below meth c D cy B H0 34 q.2.1 q.2.2.1 Q 1278 [(0, vR (some (Z 400))), (2, vR x2), (3, vR x3), (4, vI x4), (5, vI x5), (6, vI x6), (7, vI x7), (10, vR x10), (12, vR x12), (21, vI x21), (23, vI x23), (26, vI q.2.2.2.1), (27, vI q.2.2.2.2)] [] q.1)) (fun q z hq => ?_) _ _ hf hK
  intro hK
  obtain ⟨w, hw, hm⟩ := hq
  refine tb_L_law_1278 X2 hr hlx hH hne hH0 _ _ _ _ _ _ _ _ _ _ _ _ _ _ _ w hw ?_
  cases w with
  | inl a => exact hm hK
  | inr b => cases hm; exact hK
set_option maxHeartbeats 4000000 in
set_option maxRecDepth 100000 in
theorem t_L_law_1266 (X2 : gX p s m args meth c D cy B (gSt2 Z B H0) RL cL_law wsL_law 34) (hr : meth.sig.returnType = (some .boolean)) (hlx : l.stackTraces = false) (hH : ∀ q : Nat, q < B → s.heap[q]? = H0[q]?) (hne : ∀ x ∈ c.exceptionTable.toList, False) (hH0 : H0.size = B) {Q : State → Prop} : ∀ (M : gMem) (kc : Nat) (kn : Nat) (x2 : Option Nat) (x3 : Option Nat) (x4 : Int32) (x5 : Int32) (x6 : Int32) (x7 : Int32) (x10 : Option Nat) (x11 : Option Nat) (x12 : Option Nat) (x19 : Int32) (x20 : Int32) (x21 : Int32) (x23 : Int32) (x24 : Option Nat) (x26 : Int32) (z : (gMem × Nat × Nat × Int32) ⊕ ((gMem × Nat × Nat × Int32) ⊕ ((Nat ⊕ Int32) × gMem))), b_L_law_1266 Z M kc kn x2 x3 x4 x5 x6 x7 x10 x11 x12 x19 x20 x21 x23 x24 x26 = some z → (Sum.elim (fun (q : gMem × Nat × Nat × Int32) => gGo p l e rL_law s m args below meth c D cy B H0 34 q.2.1 q.2.2.1 Q 1009 [(0, vR (some (Z 400))), (2, vR x2), (3, vR x3), (4, vI x4), (5, vI x5), (6, vI x6), (7, vI x7), (10, vR x10), (11, vR x11), (12, vR x12), (19, vI x19), (20, vI x20), (21, vI x21), (23, vI x23), (24, vR x24), (26, vI q.2.2.2)] [] q.1) (Sum.elim (fun (q : gMem × Nat × Nat × Int32) => gGo p l e rL_law s m args below meth c D cy B H0 34 q.2.1 q.2.2.1 Q 59 [(0, vR (some (Z 400))), (2, vR x2), (3, vR x3), (4, vI x4), (5, vI x5), (6, vI x6), (7, vI q.2.2.2)] [] q.1) (fun (r : (Nat ⊕ Int32) × gMem) => Q = gMX below D cy B H0 args s 600086 7301442 (gzI r.1) r.2))) z → gGo p l e rL_law s m args below meth c D cy B H0 34 kc kn Q 1266 [(0, vR (some (Z 400))), (2, vR x2), (3, vR x3), (4, vI x4), (5, vI x5), (6, vI x6), (7, vI x7), (10, vR x10), (11, vR x11), (12, vR x12), (19, vI x19), (20, vI x20), (21, vI x21), (23, vI x23), (24, vR x24), (26, vI x26)] [] M := by
  intro M kc kn x2 x3 x4 x5 x6 x7 x10 x11 x12 x19 x20 x21 x23 x24 x26 z hf hK
  unfold b_L_law_1266 at hf
  have X := gX_w X2
  refine g_iinc (v := (1 : Int32)) (lv' := [(26, vI (x26 + (1 : Int32))), (0, vR (some (Z 400))), (2, vR x2), (3, vR x3), (4, vI x4), (5, vI x5), (6, vI x6), (7, vI x7), (10, vR x10), (11, vR x11), (12, vR x12), (19, vI x19), (20, vI x20), (21, vI x21), (23, vI x23), (24, vR x24)]) X dL_law_1266 rfl (by decide) (by decide) rfl ?_
  refine g_goto (tgt := 1009) X dL_law_1269 (by decide) ?_
  cases hf
  refine g_sub (lvsub_of _ _ [1, 2, 3, 4, 5, 6, 7, 8, 9, 10, 11, 12, 13, 14, 15, 0] rfl) ?_
  exact hK
set_option maxHeartbeats 4000000 in
set_option maxRecDepth 100000 in
theorem t_L_law_1264 (X2 : gX p s m args meth c D cy B (gSt2 Z B H0) RL cL_law wsL_law 34) (hr : meth.sig.returnType = (some .boolean)) (hlx : l.stackTraces = false) (hH : ∀ q : Nat, q < B → s.heap[q]? = H0[q]?) (hne : ∀ x ∈ c.exceptionTable.toList, False) (hH0 : H0.size = B) {Q : State → Prop} : ∀ (M : gMem) (kc : Nat) (kn : Nat) (z : (Nat ⊕ Int32) × gMem), b_L_law_1264 Z M kc kn = some z → (fun (r : (Nat ⊕ Int32) × gMem) => Q = gMX below D cy B H0 args s 600086 7301442 (gzI r.1) r.2) z → gGo p l e rL_law s m args below meth c D cy B H0 34 kc kn Q 1264 [] [] M := by
  intro M kc kn z hf hK
  unfold b_L_law_1264 at hf
  have X := gX_w X2
  refine g_iconst (v := (0 : Int32)) X dL_law_1264 (by decide) ?_
  obtain ⟨hg114, hf⟩ := ck_e hf
  cases hf
  refine g_eqQ hK ?_
  refine g_wide (k' := 600086) (n' := 7301442) hg114.1 hg114.2 ?_
  refine g_xret ?_
  exact g_zret X hr (gnb (Or.inl rfl)) dL_law_1265
set_option maxHeartbeats 4000000 in
set_option maxRecDepth 100000 in
theorem t_L_law_1261 (X2 : gX p s m args meth c D cy B (gSt2 Z B H0) RL cL_law wsL_law 34) (hr : meth.sig.returnType = (some .boolean)) (hlx : l.stackTraces = false) (hH : ∀ q : Nat, q < B → s.heap[q]? = H0[q]?) (hne : ∀ x ∈ c.exceptionTable.toList, False) (hH0 : H0.size = B) {Q : State → Prop} : ∀ (M : gMem) (kc : Nat) (kn : Nat) (x2 : Option Nat) (x3 : Option Nat) (x4 : Int32) (x5 : Int32) (x6 : Int32) (x7 : Int32) (x10 : Option Nat) (x11 : Option Nat) (x12 : Option Nat) (x19 : Int32) (x20 : Int32) (x21 : Int32) (x23 : Int32) (x24 : Option Nat) (x26 : Int32) (s0 : Int32) (s1 : Int32) (z : (gMem × Nat × Nat × Int32) ⊕ ((gMem × Nat × Nat × Int32) ⊕ ((Nat ⊕ Int32) × gMem))), b_L_law_1261 Z M kc kn x2 x3 x4 x5 x6 x7 x10 x11 x12 x19 x20 x21 x23 x24 x26 s0 s1 = some z → (Sum.elim (fun (q : gMem × Nat × Nat × Int32) => gGo p l e rL_law s m args below meth c D cy B H0 34 q.2.1 q.2.2.1 Q 1009 [(0, vR (some (Z 400))), (2, vR x2), (3, vR x3), (4, vI x4), (5, vI x5), (6, vI x6), (7, vI x7), (10, vR x10), (11, vR x11), (12, vR x12), (19, vI x19), (20, vI x20), (21, vI x21), (23, vI x23), (24, vR x24), (26, vI q.2.2.2)] [] q.1) (Sum.elim (fun (q : gMem × Nat × Nat × Int32) => gGo p l e rL_law s m args below meth c D cy B H0 34 q.2.1 q.2.2.1 Q 59 [(0, vR (some (Z 400))), (2, vR x2), (3, vR x3), (4, vI x4), (5, vI x5), (6, vI x6), (7, vI q.2.2.2)] [] q.1) (fun (r : (Nat ⊕ Int32) × gMem) => Q = gMX below D cy B H0 args s 600086 7301442 (gzI r.1) r.2))) z → gGo p l e rL_law s m args below meth c D cy B H0 34 kc kn Q 1261 [(0, vR (some (Z 400))), (2, vR x2), (3, vR x3), (4, vI x4), (5, vI x5), (6, vI x6), (7, vI x7), (10, vR x10), (11, vR x11), (12, vR x12), (19, vI x19), (20, vI x20), (21, vI x21), (23, vI x23), (24, vR x24), (26, vI x26)] [vI s1, vI s0] M := by
  intro M kc kn x2 x3 x4 x5 x6 x7 x10 x11 x12 x19 x20 x21 x23 x24 x26 s0 s1 z hf hK
  unfold b_L_law_1261 at hf
  have X := gX_w X2
  refine g_icmp_eq (tgt := 1266) X dL_law_1261 (by decide) (fun hc => ?_) (fun hc => ?_)
  · have hf := ife_t hc hf
    refine g_sub (lvsub_of _ _ [0, 1, 2, 3, 4, 5, 6, 7, 8, 9, 10, 11, 12, 13, 14, 15] rfl) ?_
    exact t_L_law_1266 X2 hr hlx hH hne hH0 _ _ _ _ _ _ _ _ _ _ _ _ _ _ _ _ _ _ _ hf hK
  · have hf := ife_f hc hf
    obtain ⟨w115, hw115, hz115⟩ := oI_e hf
    subst hz115
    have hf := hw115
    obtain ⟨w116, hw116, hz116⟩ := oI_e hf
    subst hz116
    have hf := hw116
    refine g_sub (lvsub_of _ _ [] rfl) ?_
    exact t_L_law_1264 X2 hr hlx hH hne hH0 _ _ _ _ hf hK
set_option maxHeartbeats 4000000 in
set_option maxRecDepth 100000 in
theorem t_L_law_1251 (X2 : gX p s m args meth c D cy B (gSt2 Z B H0) RL cL_law wsL_law 34) (hr : meth.sig.returnType = (some .boolean)) (hlx : l.stackTraces = false) (hH : ∀ q : Nat, q < B → s.heap[q]? = H0[q]?) (hne : ∀ x ∈ c.exceptionTable.toList, False) (hH0 : H0.size = B) {Q : State → Prop} : ∀ (M : gMem) (kc : Nat) (kn : Nat) (x2 : Option Nat) (x3 : Option Nat) (x4 : Int32) (x5 : Int32) (x6 : Int32) (x7 : Int32) (x10 : Option Nat) (x11 : Option Nat) (x12 : Option Nat) (x19 : Int32) (x20 : Int32) (x21 : Int32) (x23 : Int32) (x24 : Option Nat) (x26 : Int32) (x29 : Int32) (s0 : Int32) (z : (gMem × Nat × Nat × Int32) ⊕ ((gMem × Nat × Nat × Int32) ⊕ ((Nat ⊕ Int32) × gMem))), b_L_law_1251 Z M kc kn x2 x3 x4 x5 x6 x7 x10 x11 x12 x19 x20 x21 x23 x24 x26 x29 s0 = some z → (Sum.elim (fun (q : gMem × Nat × Nat × Int32) => gGo p l e rL_law s m args below meth c D cy B H0 34 q.2.1 q.2.2.1 Q 1009 [(0, vR (some (Z 400))), (2, vR x2), (3, vR x3), (4, vI x4), (5, vI x5), (6, vI x6), (7, vI x7), (10, vR x10), (11, vR x11), (12, vR x12), (19, vI x19), (20, vI x20), (21, vI x21), (23, vI x23), (24, vR x24), (26, vI q.2.2.2)] [] q.1) (Sum.elim (fun (q : gMem × Nat × Nat × Int32) => gGo p l e rL_law s m args below meth c D cy B H0 34 q.2.1 q.2.2.1 Q 59 [(0, vR (some (Z 400))), (2, vR x2), (3, vR x3), (4, vI x4), (5, vI x5), (6, vI x6), (7, vI q.2.2.2)] [] q.1) (fun (r : (Nat ⊕ Int32) × gMem) => Q = gMX below D cy B H0 args s 600086 7301442 (gzI r.1) r.2))) z → gGo p l e rL_law s m args below meth c D cy B H0 34 kc kn Q 1251 [(0, vR (some (Z 400))), (2, vR x2), (3, vR x3), (4, vI x4), (5, vI x5), (6, vI x6), (7, vI x7), (10, vR x10), (11, vR x11), (12, vR x12), (19, vI x19), (20, vI x20), (21, vI x21), (23, vI x23), (24, vR x24), (26, vI x26), (29, vI x29)] [vI s0] M := by
  intro M kc kn x2 x3 x4 x5 x6 x7 x10 x11 x12 x19 x20 x21 x23 x24 x26 x29 s0 z hf hK
  unfold b_L_law_1251 at hf
  have X := gX_w X2
  refine g_iload X dL_law_1251 rfl ?_
  refine g_if_ne (tgt := 1260) X dL_law_1253 (by decide) (fun hc => ?_) (fun hc => ?_)
  · have hf := ife_f hc hf
    refine g_iconst (v := (0 : Int32)) X dL_law_1260 (by decide) ?_
    refine g_sub (lvsub_of _ _ [0, 1, 2, 3, 4, 5, 6, 7, 8, 9, 10, 11, 12, 13, 14, 15] rfl) ?_
    exact t_L_law_1261 X2 hr hlx hH hne hH0 _ _ _ _ _ _ _ _ _ _ _ _ _ _ _ _ _ _ _ _ _ hf hK
  · have hf := ife_t hc hf
    refine g_iconst (v := (1 : Int32)) X dL_law_1256 (by decide) ?_
    refine g_goto (tgt := 1261) X dL_law_1257 (by decide) ?_
    refine g_sub (lvsub_of _ _ [0, 1, 2, 3, 4, 5, 6, 7, 8, 9, 10, 11, 12, 13, 14, 15] rfl) ?_
    exact t_L_law_1261 X2 hr hlx hH hne hH0 _ _ _ _ _ _ _ _ _ _ _ _ _ _ _ _ _ _ _ _ _ hf hK
set_option maxHeartbeats 4000000 in
set_option maxRecDepth 100000 in
theorem t_L_law_1208 (X2 : gX p s m args meth c D cy B (gSt2 Z B H0) RL cL_law wsL_law 34) (hr : meth.sig.returnType = (some .boolean)) (hlx : l.stackTraces = false) (hH : ∀ q : Nat, q < B → s.heap[q]? = H0[q]?) (hne : ∀ x ∈ c.exceptionTable.toList, False) (hH0 : H0.size = B) {Q : State → Prop} : ∀ (M : gMem) (kc : Nat) (kn : Nat) (z : (Nat ⊕ Int32) × gMem), b_L_law_1208 Z M kc kn = some z → (fun (r : (Nat ⊕ Int32) × gMem) => Q = gMX below D cy B H0 args s 600086 7301442 (gzI r.1) r.2) z → gGo p l e rL_law s m args below meth c D cy B H0 34 kc kn Q 1208 [] [] M := by
  intro M kc kn z hf hK
  unfold b_L_law_1208 at hf
  have X := gX_w X2
  refine g_iconst (v := (0 : Int32)) X dL_law_1208 (by decide) ?_
  obtain ⟨hg117, hf⟩ := ck_e hf
  cases hf
  refine g_eqQ hK ?_
  refine g_wide (k' := 600086) (n' := 7301442) hg117.1 hg117.2 ?_
  refine g_xret ?_
  exact g_zret X hr (gnb (Or.inl rfl)) dL_law_1209
set_option maxHeartbeats 4000000 in
set_option maxRecDepth 100000 in
theorem tb_L_law_1164 (X2 : gX p s m args meth c D cy B (gSt2 Z B H0) RL cL_law wsL_law 34) (hr : meth.sig.returnType = (some .boolean)) (hlx : l.stackTraces = false) (hH : ∀ q : Nat, q < B → s.heap[q]? = H0[q]?) (hne : ∀ x ∈ c.exceptionTable.toList, False) (hH0 : H0.size = B) {Q : State → Prop} : ∀ (M : gMem) (kc : Nat) (kn : Nat) (x2 : Option Nat) (x3 : Option Nat) (x4 : Int32) (x5 : Int32) (x6 : Int32) (x7 : Int32) (x10 : Option Nat) (x11 : Option Nat) (x12 : Option Nat) (x19 : Int32) (x20 : Int32) (x21 : Int32) (x23 : Int32) (x24 : Option Nat) (x26 : Int32) (x29 : Int32) (x30 : Int32) (z : (gMem × Nat × Nat × Int32 × Int32) ⊕ ((gMem × Nat × Nat × Int32) ⊕ ((gMem × Nat × Nat × Int32) ⊕ ((Nat ⊕ Int32) × gMem)))), bb_L_law_1164 Z M kc kn x2 x3 x4 x5 x6 x7 x10 x11 x12 x19 x20 x21 x23 x24 x26 x29 x30 = some z → (Sum.elim (fun (q : gMem × Nat × Nat × Int32 × Int32) => gGo p l e rL_law s m args below meth c D cy B H0 34 q.2.1 q.2.2.1 Q 1164 [(0, vR (some (Z 400))), (2, vR x2), (3, vR x3), (4, vI x4), (5, vI x5), (6, vI x6), (7, vI x7), (10, vR x10), (11, vR x11), (12, vR x12), (19, vI x19), (20, vI x20), (21, vI x21), (23, vI x23), (24, vR x24), (26, vI x26), (29, vI q.2.2.2.1), (30, vI q.2.2.2.2)] [] q.1) (Sum.elim (fun (q : gMem × Nat × Nat × Int32) => gGo p l e rL_law s m args below meth c D cy B H0 34 q.2.1 q.2.2.1 Q 1009 [(0, vR (some (Z 400))), (2, vR x2), (3, vR x3), (4, vI x4), (5, vI x5), (6, vI x6), (7, vI x7), (10, vR x10), (11, vR x11), (12, vR x12), (19, vI x19), (20, vI x20), (21, vI x21), (23, vI x23), (24, vR x24), (26, vI q.2.2.2)] [] q.1) (Sum.elim (fun (q : gMem × Nat × Nat × Int32) => gGo p l e rL_law s m args below meth c D cy B H0 34 q.2.1 q.2.2.1 Q 59 [(0, vR (some (Z 400))), (2, vR x2), (3, vR x3), (4, vI x4), (5, vI x5), (6, vI x6), (7, vI q.2.2.2)] [] q.1) (fun (r : (Nat ⊕ Int32) × gMem) => Q = gMX below D cy B H0 args s 600086 7301442 (gzI r.1) r.2)))) z → gGo p l e rL_law s m args below meth c D cy B H0 34 kc kn Q 1164 [(0, vR (some (Z 400))), (2, vR x2), (3, vR x3), (4, vI x4), (5, vI x5), (6, vI x6), (7, vI x7), (10, vR x10), (11, vR x11), (12, vR x12), (19, vI x19), (20, vI x20), (21, vI x21), (23, vI x23), (24, vR x24), (26, vI x26), (29, vI x29), (30, vI x30)] [] M := by
  intro M kc kn x2 x3 x4 x5 x6 x7 x10 x11 x12 x19 x20 x21 x23 x24 x26 x29 x30 z hf hK
  unfold bb_L_law_1164 at hf
  have X := gX_w X2
  refine g_iload X dL_law_1164 rfl ?_
  refine g_bipush (v := (6 : Int32)) X dL_law_1166 (by decide) ?_
  refine g_icmp_ge (tgt := 1216) X dL_law_1168 (by decide) (fun hc => ?_) (fun hc => ?_)
  · have hf := ife_t hc hf
    refine g_iload X dL_law_1216 rfl ?_
    refine g_aload_n X dL_law_1218 rfl rfl ?_
    refine g_iload X dL_law_1219 rfl ?_
    refine g_iconst (v := (0 : Int32)) X dL_law_1221 (by decide) ?_
    obtain ⟨a119, ha119, hf⟩ := dr_e hf
    obtain ⟨hT120, hf⟩ := ck_e hf
    obtain ⟨hg121, hf⟩ := ck_e hf
    rcases bx_e hf with ⟨e118, M118, hq118, hf⟩ | ⟨r118, M118, hq118, hf⟩
    · obtain ⟨w122, hw122, hz122⟩ := oI_e hf
      subst hz122
      have hf := hw122
      obtain ⟨w123, hw123, hz123⟩ := oI_e hf
      subst hz123
      have hf := hw123
      obtain ⟨w124, hw124, hz124⟩ := oI_e hf
      subst hz124
      have hf := hw124
      cases hf
      refine g_eqQ hK ?_
      exact g_callTV (ci := 9) (b := a119) (As := [vI x26, vI (0 : Int32)]) (st := [vI x29]) (M1 := M118) X2 hne (m_X11_ground l hlx hH0 hq118) (cwV 2 X.2.2.1 gL_law_X11_ground rfl rfl rfl (by decide +kernel) ⟨Nat.le_of_ble_eq_true rfl, Nat.le_of_ble_eq_true rfl⟩) rfl rfl ha119 hT120 (by decide) rfl (Nat.le_of_ble_eq_true rfl) dL_law_1222 ⟨hg121.1, hg121.2⟩ hg121.1 hg121.2
    refine g_callXV (ci := 9) (b := a119) (As := [vI x26, vI (0 : Int32)]) (st := [vI x29]) (v := some (vI r118)) (M1 := M118) X2 (m_X11_ground l hlx hH0 hq118) (cwV 2 X.2.2.1 gL_law_X11_ground rfl rfl rfl (by decide +kernel) ⟨Nat.le_of_ble_eq_true rfl, Nat.le_of_ble_eq_true rfl⟩) rfl rfl ha119 hT120 (by decide) rfl (Nat.le_of_ble_eq_true rfl) dL_law_1222 ⟨hg121.1, hg121.2⟩ ?_
    refine g_icmp_ne (tgt := 1264) X dL_law_1225 (by decide) (fun hc => ?_) (fun hc => ?_)
    · have hf := ife_f hc hf
      obtain ⟨w125, hw125, hz125⟩ := oI_e hf
      subst hz125
      have hf := hw125
      obtain ⟨w126, hw126, hz126⟩ := oI_e hf
      subst hz126
      have hf := hw126
      obtain ⟨w127, hw127, hz127⟩ := oI_e hf
      subst hz127
      have hf := hw127
      refine g_sub (lvsub_of _ _ [] rfl) ?_
      exact t_L_law_1264 X2 hr hlx hH hne hH0 _ _ _ _ hf hK
    · have hf := ife_t hc hf
      refine g_iload X dL_law_1228 rfl ?_
      refine g_iload X dL_law_1230 rfl ?_
      refine g_icmp_ne (tgt := 1266) X dL_law_1232 (by decide) (fun hc => ?_) (fun hc => ?_)
      · have hf := ife_f hc hf
        obtain ⟨w128, hw128, hz128⟩ := oI_e hf
        subst hz128
        have hf := hw128
        refine g_sub (lvsub_of _ _ [0, 1, 2, 3, 4, 5, 6, 7, 8, 9, 10, 11, 12, 13, 14, 15] rfl) ?_
        exact t_L_law_1266 X2 hr hlx hH hne hH0 _ _ _ _ _ _ _ _ _ _ _ _ _ _ _ _ _ _ _ hf hK
      · have hf := ife_t hc hf
        refine g_iload X dL_law_1235 rfl ?_
        refine g_if_le (tgt := 1266) X dL_law_1237 (by decide) (fun hc => ?_) (fun hc => ?_)
        · have hf := ife_t hc hf
          obtain ⟨w129, hw129, hz129⟩ := oI_e hf
          subst hz129
          have hf := hw129
          refine g_sub (lvsub_of _ _ [0, 1, 2, 3, 4, 5, 6, 7, 8, 9, 10, 11, 12, 13, 14, 15] rfl) ?_
          exact t_L_law_1266 X2 hr hlx hH hne hH0 _ _ _ _ _ _ _ _ _ _ _ _ _ _ _ _ _ _ _ hf hK
        · have hf := ife_f hc hf
          refine g_iload X dL_law_1240 rfl ?_
          refine g_iconst (v := (1 : Int32)) X dL_law_1242 (by decide) ?_
          refine g_icmp_ne (tgt := 1250) X dL_law_1243 (by decide) (fun hc => ?_) (fun hc => ?_)
          · have hf := ife_f hc hf
            refine g_iconst (v := (0 : Int32)) X dL_law_1250 (by decide) ?_
            obtain ⟨w130, hw130, hz130⟩ := oI_e hf
            subst hz130
            have hf := hw130
            refine g_sub (lvsub_of _ _ [0, 1, 2, 3, 4, 5, 6, 7, 8, 9, 10, 11, 12, 13, 14, 15, 16] rfl) ?_
            exact t_L_law_1251 X2 hr hlx hH hne hH0 _ _ _ _ _ _ _ _ _ _ _ _ _ _ _ _ _ _ _ _ _ hf hK
          · have hf := ife_t hc hf
            refine g_iconst (v := (1 : Int32)) X dL_law_1246 (by decide) ?_
            refine g_goto (tgt := 1251) X dL_law_1247 (by decide) ?_
            obtain ⟨w131, hw131, hz131⟩ := oI_e hf
            subst hz131
            have hf := hw131
            refine g_sub (lvsub_of _ _ [0, 1, 2, 3, 4, 5, 6, 7, 8, 9, 10, 11, 12, 13, 14, 15, 16] rfl) ?_
            exact t_L_law_1251 X2 hr hlx hH hne hH0 _ _ _ _ _ _ _ _ _ _ _ _ _ _ _ _ _ _ _ _ _ hf hK
  · have hf := ife_f hc hf
    refine g_iload X dL_law_1171 rfl ?_
    refine g_aload_n X dL_law_1173 rfl rfl ?_
    refine g_iload X dL_law_1174 rfl ?_
    refine g_iload X dL_law_1176 rfl ?_
    obtain ⟨a133, ha133, hf⟩ := dr_e hf
    obtain ⟨hT134, hf⟩ := ck_e hf
    obtain ⟨hg135, hf⟩ := ck_e hf
    rcases bx_e hf with ⟨e132, M132, hq132, hf⟩ | ⟨r132, M132, hq132, hf⟩
    · obtain ⟨w136, hw136, hz136⟩ := oI_e hf
      subst hz136
      have hf := hw136
      obtain ⟨w137, hw137, hz137⟩ := oI_e hf
      subst hz137
      have hf := hw137
      obtain ⟨w138, hw138, hz138⟩ := oI_e hf
      subst hz138
      have hf := hw138
      cases hf
      refine g_eqQ hK ?_
      exact g_callTV (ci := 9) (b := a133) (As := [vI x26, vI x30]) (st := [vI x29]) (M1 := M132) X2 hne (m_X11_ground l hlx hH0 hq132) (cwV 2 X.2.2.1 gL_law_X11_ground rfl rfl rfl (by decide +kernel) ⟨Nat.le_of_ble_eq_true rfl, Nat.le_of_ble_eq_true rfl⟩) rfl rfl ha133 hT134 (by decide) rfl (Nat.le_of_ble_eq_true rfl) dL_law_1178 ⟨hg135.1, hg135.2⟩ hg135.1 hg135.2
    refine g_callXV (ci := 9) (b := a133) (As := [vI x26, vI x30]) (st := [vI x29]) (v := some (vI r132)) (M1 := M132) X2 (m_X11_ground l hlx hH0 hq132) (cwV 2 X.2.2.1 gL_law_X11_ground rfl rfl rfl (by decide +kernel) ⟨Nat.le_of_ble_eq_true rfl, Nat.le_of_ble_eq_true rfl⟩) rfl rfl ha133 hT134 (by decide) rfl (Nat.le_of_ble_eq_true rfl) dL_law_1178 ⟨hg135.1, hg135.2⟩ ?_
    refine g_iadd X dL_law_1181 ?_
    refine g_istore (lv' := [(29, vI (x29 + r132)), (0, vR (some (Z 400))), (2, vR x2), (3, vR x3), (4, vI x4), (5, vI x5), (6, vI x6), (7, vI x7), (10, vR x10), (11, vR x11), (12, vR x12), (19, vI x19), (20, vI x20), (21, vI x21), (23, vI x23), (24, vR x24), (26, vI x26), (30, vI x30)]) X dL_law_1182 (by decide) rfl ?_
    refine g_aload_n X dL_law_1184 rfl rfl ?_
    refine g_iload X dL_law_1185 rfl ?_
    refine g_iload X dL_law_1187 rfl ?_
    obtain ⟨hT140, hf⟩ := ck_e hf
    obtain ⟨hg141, hf⟩ := ck_e hf
    rcases bx_e hf with ⟨e139, M139, hq139, hf⟩ | ⟨r139, M139, hq139, hf⟩
    · obtain ⟨w142, hw142, hz142⟩ := oI_e hf
      subst hz142
      have hf := hw142
      obtain ⟨w143, hw143, hz143⟩ := oI_e hf
      subst hz143
      have hf := hw143
      obtain ⟨w144, hw144, hz144⟩ := oI_e hf
      subst hz144
      have hf := hw144
      cases hf
      refine g_eqQ hK ?_
      exact g_callTV (ci := 9) (b := a133) (As := [vI x26, vI x30]) (st := []) (M1 := M139) X2 hne (m_X11_ground l hlx hH0 hq139) (cwV 2 X.2.2.1 gL_law_X11_ground rfl rfl rfl (by decide +kernel) ⟨Nat.le_of_ble_eq_true rfl, Nat.le_of_ble_eq_true rfl⟩) rfl rfl ha133 hT140 (by decide) rfl (Nat.le_of_ble_eq_true rfl) dL_law_1189 ⟨hg141.1, hg141.2⟩ hg141.1 hg141.2
    refine g_callXV (ci := 9) (b := a133) (As := [vI x26, vI x30]) (st := []) (v := some (vI r139)) (M1 := M139) X2 (m_X11_ground l hlx hH0 hq139) (cwV 2 X.2.2.1 gL_law_X11_ground rfl rfl rfl (by decide +kernel) ⟨Nat.le_of_ble_eq_true rfl, Nat.le_of_ble_eq_true rfl⟩) rfl rfl ha133 hT140 (by decide) rfl (Nat.le_of_ble_eq_true rfl) dL_law_1189 ⟨hg141.1, hg141.2⟩ ?_
    refine g_if_lt (tgt := 1208) X dL_law_1192 (by decide) (fun hc => ?_) (fun hc => ?_)
    · have hf := ife_t hc hf
      obtain ⟨w145, hw145, hz145⟩ := oI_e hf
      subst hz145
      have hf := hw145
      obtain ⟨w146, hw146, hz146⟩ := oI_e hf
      subst hz146
      have hf := hw146
      obtain ⟨w147, hw147, hz147⟩ := oI_e hf
      subst hz147
      have hf := hw147
      refine g_sub (lvsub_of _ _ [] rfl) ?_
      exact t_L_law_1208 X2 hr hlx hH hne hH0 _ _ _ _ hf hK
    · have hf := ife_f hc hf
      refine g_aload_n X dL_law_1195 rfl rfl ?_
      refine g_iload X dL_law_1196 rfl ?_
      refine g_iload X dL_law_1198 rfl ?_
      obtain ⟨hT149, hf⟩ := ck_e hf
      obtain ⟨hg150, hf⟩ := ck_e hf
      rcases bx_e hf with ⟨e148, M148, hq148, hf⟩ | ⟨r148, M148, hq148, hf⟩
      · obtain ⟨w151, hw151, hz151⟩ := oI_e hf
        subst hz151
        have hf := hw151
        obtain ⟨w152, hw152, hz152⟩ := oI_e hf
        subst hz152
        have hf := hw152
        obtain ⟨w153, hw153, hz153⟩ := oI_e hf
        subst hz153
        have hf := hw153
        cases hf
        refine g_eqQ hK ?_
        exact g_callTV (ci := 9) (b := a133) (As := [vI x26, vI x30]) (st := []) (M1 := M148) X2 hne (m_X11_ground l hlx hH0 hq148) (cwV 2 X.2.2.1 gL_law_X11_ground rfl rfl rfl (by decide +kernel) ⟨Nat.le_of_ble_eq_true rfl, Nat.le_of_ble_eq_true rfl⟩) rfl rfl ha133 hT149 (by decide) rfl (Nat.le_of_ble_eq_true rfl) dL_law_1200 ⟨hg150.1, hg150.2⟩ hg150.1 hg150.2
      refine g_callXV (ci := 9) (b := a133) (As := [vI x26, vI x30]) (st := []) (v := some (vI r148)) (M1 := M148) X2 (m_X11_ground l hlx hH0 hq148) (cwV 2 X.2.2.1 gL_law_X11_ground rfl rfl rfl (by decide +kernel) ⟨Nat.le_of_ble_eq_true rfl, Nat.le_of_ble_eq_true rfl⟩) rfl rfl ha133 hT149 (by decide) rfl (Nat.le_of_ble_eq_true rfl) dL_law_1200 ⟨hg150.1, hg150.2⟩ ?_
      refine g_bipush (v := (99 : Int32)) X dL_law_1203 (by decide) ?_
      refine g_icmp_le (tgt := 1210) X dL_law_1205 (by decide) (fun hc => ?_) (fun hc => ?_)
      · have hf := ife_t hc hf
        refine g_iinc (v := (1 : Int32)) (lv' := [(30, vI (x30 + (1 : Int32))), (29, vI (x29 + r132)), (0, vR (some (Z 400))), (2, vR x2), (3, vR x3), (4, vI x4), (5, vI x5), (6, vI x6), (7, vI x7), (10, vR x10), (11, vR x11), (12, vR x12), (19, vI x19), (20, vI x20), (21, vI x21), (23, vI x23), (24, vR x24), (26, vI x26)]) X dL_law_1210 rfl (by decide) (by decide) rfl ?_
        refine g_goto (tgt := 1164) X dL_law_1213 (by decide) ?_
        cases hf
        refine g_sub (lvsub_of _ _ [2, 3, 4, 5, 6, 7, 8, 9, 10, 11, 12, 13, 14, 15, 16, 17, 1, 0] rfl) ?_
        exact hK
      · have hf := ife_f hc hf
        obtain ⟨w154, hw154, hz154⟩ := oI_e hf
        subst hz154
        have hf := hw154
        obtain ⟨w155, hw155, hz155⟩ := oI_e hf
        subst hz155
        have hf := hw155
        obtain ⟨w156, hw156, hz156⟩ := oI_e hf
        subst hz156
        have hf := hw156
        refine g_sub (lvsub_of _ _ [] rfl) ?_
        exact t_L_law_1208 X2 hr hlx hH hne hH0 _ _ _ _ hf hK
set_option maxHeartbeats 4000000 in
set_option maxRecDepth 100000 in
theorem tl_L_law_1164 (X2 : gX p s m args meth c D cy B (gSt2 Z B H0) RL cL_law wsL_law 34) (hr : meth.sig.returnType = (some .boolean)) (hlx : l.stackTraces = false) (hH : ∀ q : Nat, q < B → s.heap[q]? = H0[q]?) (hne : ∀ x ∈ c.exceptionTable.toList, False) (hH0 : H0.size = B) {Q : State → Prop} : ∀ (M : gMem) (kc : Nat) (kn : Nat) (x2 : Option Nat) (x3 : Option Nat) (x4 : Int32) (x5 : Int32) (x6 : Int32) (x7 : Int32) (x10 : Option Nat) (x11 : Option Nat) (x12 : Option Nat) (x19 : Int32) (x20 : Int32) (x21 : Int32) (x23 : Int32) (x24 : Option Nat) (x26 : Int32) (x29 : Int32) (x30 : Int32) (z : (gMem × Nat × Nat × Int32) ⊕ ((gMem × Nat × Nat × Int32) ⊕ ((Nat ⊕ Int32) × gMem))), lp_L_law_1164 Z M kc kn x2 x3 x4 x5 x6 x7 x10 x11 x12 x19 x20 x21 x23 x24 x26 x29 x30 = some z → (Sum.elim (fun (q : gMem × Nat × Nat × Int32) => gGo p l e rL_law s m args below meth c D cy B H0 34 q.2.1 q.2.2.1 Q 1009 [(0, vR (some (Z 400))), (2, vR x2), (3, vR x3), (4, vI x4), (5, vI x5), (6, vI x6), (7, vI x7), (10, vR x10), (11, vR x11), (12, vR x12), (19, vI x19), (20, vI x20), (21, vI x21), (23, vI x23), (24, vR x24), (26, vI q.2.2.2)] [] q.1) (Sum.elim (fun (q : gMem × Nat × Nat × Int32) => gGo p l e rL_law s m args below meth c D cy B H0 34 q.2.1 q.2.2.1 Q 59 [(0, vR (some (Z 400))), (2, vR x2), (3, vR x3), (4, vI x4), (5, vI x5), (6, vI x6), (7, vI q.2.2.2)] [] q.1) (fun (r : (Nat ⊕ Int32) × gMem) => Q = gMX below D cy B H0 args s 600086 7301442 (gzI r.1) r.2))) z → gGo p l e rL_law s m args below meth c D cy B H0 34 kc kn Q 1164 [(0, vR (some (Z 400))), (2, vR x2), (3, vR x3), (4, vI x4), (5, vI x5), (6, vI x6), (7, vI x7), (10, vR x10), (11, vR x11), (12, vR x12), (19, vI x19), (20, vI x20), (21, vI x21), (23, vI x23), (24, vR x24), (26, vI x26), (29, vI x29), (30, vI x30)] [] M := by
  intro M kc kn x2 x3 x4 x5 x6 x7 x10 x11 x12 x19 x20 x21 x23 x24 x26 x29 x30 z hf hK
  refine lp_ind (P := (fun (q : gMem × Nat × Nat × Int32 × Int32) (z : (gMem × Nat × Nat × Int32) ⊕ ((gMem × Nat × Nat × Int32) ⊕ ((Nat ⊕ Int32) × gMem))) => (Sum.elim (fun (q : gMem × Nat × Nat × Int32) => gGo p l e rL_law s m args below meth c D cy B H0 34 q.2.1 q.2.2.1 Q 1009 [(0, vR (some (Z 400))), (2, vR x2), (3, vR x3), (4, vI x4), (5, vI x5), (6, vI x6), (7, vI x7), (10, vR x10), (11, vR x11), (12, vR x12), (19, vI x19), (20, vI x20), (21, vI x21), (23, vI x23), (24, vR x24), (26, vI q.2.2.2)] [] q.1) (Sum.elim (fun (q : gMem × Nat × Nat × Int32) => gGo p l e rL_law s m args below meth c D cy B H0 34 q.2.1 q.2.2.1 Q 59 [(0, vR (some (Z 400))), (2, vR x2), (3, vR x3), (4, vI x4), (5, vI x5), (6, vI x6), (7, vI q.2.2.2)] [] q.1) (fun (r : (Nat ⊕ Int32) × gMem) => Q = gMX below D cy B H0 args s 600086 7301442 (gzI r.1) r.2))) z → gGo p l e rL_law s m args below meth c D cy B H0 34 q.2.1 q.2.2.1 Q 1164 [(0, vR (some (Z 400))), (2, vR x2), (3, vR x3), (4, vI x4), (5, vI x5), (6, vI x6), (7, vI x7), (10, vR x10), (11, vR x11), (12, vR x12), (19, vI x19), (20, vI x20), (21, vI x21), (23, vI x23), (24, vR x24), (26, vI x26), (29, vI q.2.2.2.1), (30, vI q.2.2.2.2)] [] q.1)) (fun q z hq => ?_) _ _ hf hK
  intro hK
  obtain ⟨w, hw, hm⟩ := hq
  refine tb_L_law_1164 X2 hr hlx hH hne hH0 _ _ _ _ _ _ _ _ _ _ _ _ _ _ _ _ _ _ _ _ w hw ?_
  cases w with
  | inl a => exact hm hK
  | inr b => cases hm; exact hK
set_option maxHeartbeats 4000000 in
set_option maxRecDepth 100000 in
theorem t_L_law_1158 (X2 : gX p s m args meth c D cy B (gSt2 Z B H0) RL cL_law wsL_law 34) (hr : meth.sig.returnType = (some .boolean)) (hlx : l.stackTraces = false) (hH : ∀ q : Nat, q < B → s.heap[q]? = H0[q]?) (hne : ∀ x ∈ c.exceptionTable.toList, False) (hH0 : H0.size = B) {Q : State → Prop} : ∀ (M : gMem) (kc : Nat) (kn : Nat) (x2 : Option Nat) (x3 : Option Nat) (x4 : Int32) (x5 : Int32) (x6 : Int32) (x7 : Int32) (x10 : Option Nat) (x11 : Option Nat) (x12 : Option Nat) (x19 : Int32) (x20 : Int32) (x21 : Int32) (x23 : Int32) (x24 : Option Nat) (x26 : Int32) (z : (gMem × Nat × Nat × Int32) ⊕ ((gMem × Nat × Nat × Int32) ⊕ ((Nat ⊕ Int32) × gMem))), b_L_law_1158 Z M kc kn x2 x3 x4 x5 x6 x7 x10 x11 x12 x19 x20 x21 x23 x24 x26 = some z → (Sum.elim (fun (q : gMem × Nat × Nat × Int32) => gGo p l e rL_law s m args below meth c D cy B H0 34 q.2.1 q.2.2.1 Q 1009 [(0, vR (some (Z 400))), (2, vR x2), (3, vR x3), (4, vI x4), (5, vI x5), (6, vI x6), (7, vI x7), (10, vR x10), (11, vR x11), (12, vR x12), (19, vI x19), (20, vI x20), (21, vI x21), (23, vI x23), (24, vR x24), (26, vI q.2.2.2)] [] q.1) (Sum.elim (fun (q : gMem × Nat × Nat × Int32) => gGo p l e rL_law s m args below meth c D cy B H0 34 q.2.1 q.2.2.1 Q 59 [(0, vR (some (Z 400))), (2, vR x2), (3, vR x3), (4, vI x4), (5, vI x5), (6, vI x6), (7, vI q.2.2.2)] [] q.1) (fun (r : (Nat ⊕ Int32) × gMem) => Q = gMX below D cy B H0 args s 600086 7301442 (gzI r.1) r.2))) z → gGo p l e rL_law s m args below meth c D cy B H0 34 kc kn Q 1158 [(0, vR (some (Z 400))), (2, vR x2), (3, vR x3), (4, vI x4), (5, vI x5), (6, vI x6), (7, vI x7), (10, vR x10), (11, vR x11), (12, vR x12), (19, vI x19), (20, vI x20), (21, vI x21), (23, vI x23), (24, vR x24), (26, vI x26)] [] M := by
  intro M kc kn x2 x3 x4 x5 x6 x7 x10 x11 x12 x19 x20 x21 x23 x24 x26 z hf hK
  unfold b_L_law_1158 at hf
  have X := gX_w X2
  refine g_iconst (v := (0 : Int32)) X dL_law_1158 (by decide) ?_
  refine g_istore (lv' := [(29, vI (0 : Int32)), (0, vR (some (Z 400))), (2, vR x2), (3, vR x3), (4, vI x4), (5, vI x5), (6, vI x6), (7, vI x7), (10, vR x10), (11, vR x11), (12, vR x12), (19, vI x19), (20, vI x20), (21, vI x21), (23, vI x23), (24, vR x24), (26, vI x26)]) X dL_law_1159 (by decide) rfl ?_
  refine g_iconst (v := (1 : Int32)) X dL_law_1161 (by decide) ?_
  refine g_istore (lv' := [(30, vI (1 : Int32)), (29, vI (0 : Int32)), (0, vR (some (Z 400))), (2, vR x2), (3, vR x3), (4, vI x4), (5, vI x5), (6, vI x6), (7, vI x7), (10, vR x10), (11, vR x11), (12, vR x12), (19, vI x19), (20, vI x20), (21, vI x21), (23, vI x23), (24, vR x24), (26, vI x26)]) X dL_law_1162 (by decide) rfl ?_
  refine g_sub (lvsub_of _ _ [2, 3, 4, 5, 6, 7, 8, 9, 10, 11, 12, 13, 14, 15, 16, 17, 1, 0] rfl) ?_
  exact tl_L_law_1164 X2 hr hlx hH hne hH0 _ _ _ _ _ _ _ _ _ _ _ _ _ _ _ _ _ _ _ _ _ hf hK
set_option maxHeartbeats 4000000 in
set_option maxRecDepth 100000 in
theorem t_L_law_1156 (X2 : gX p s m args meth c D cy B (gSt2 Z B H0) RL cL_law wsL_law 34) (hr : meth.sig.returnType = (some .boolean)) (hlx : l.stackTraces = false) (hH : ∀ q : Nat, q < B → s.heap[q]? = H0[q]?) (hne : ∀ x ∈ c.exceptionTable.toList, False) (hH0 : H0.size = B) {Q : State → Prop} : ∀ (M : gMem) (kc : Nat) (kn : Nat) (z : (Nat ⊕ Int32) × gMem), b_L_law_1156 Z M kc kn = some z → (fun (r : (Nat ⊕ Int32) × gMem) => Q = gMX below D cy B H0 args s 600086 7301442 (gzI r.1) r.2) z → gGo p l e rL_law s m args below meth c D cy B H0 34 kc kn Q 1156 [] [] M := by
  intro M kc kn z hf hK
  unfold b_L_law_1156 at hf
  have X := gX_w X2
  refine g_iconst (v := (0 : Int32)) X dL_law_1156 (by decide) ?_
  obtain ⟨hg157, hf⟩ := ck_e hf
  cases hf
  refine g_eqQ hK ?_
  refine g_wide (k' := 600086) (n' := 7301442) hg157.1 hg157.2 ?_
  refine g_xret ?_
  exact g_zret X hr (gnb (Or.inl rfl)) dL_law_1157
set_option maxHeartbeats 4000000 in
set_option maxRecDepth 100000 in
theorem tb_L_law_1009 (X2 : gX p s m args meth c D cy B (gSt2 Z B H0) RL cL_law wsL_law 34) (hr : meth.sig.returnType = (some .boolean)) (hlx : l.stackTraces = false) (hH : ∀ q : Nat, q < B → s.heap[q]? = H0[q]?) (hne : ∀ x ∈ c.exceptionTable.toList, False) (hH0 : H0.size = B) {Q : State → Prop} : ∀ (M : gMem) (kc : Nat) (kn : Nat) (x2 : Option Nat) (x3 : Option Nat) (x4 : Int32) (x5 : Int32) (x6 : Int32) (x7 : Int32) (x10 : Option Nat) (x11 : Option Nat) (x12 : Option Nat) (x19 : Int32) (x20 : Int32) (x21 : Int32) (x23 : Int32) (x24 : Option Nat) (x26 : Int32) (z : (gMem × Nat × Nat × Int32) ⊕ ((gMem × Nat × Nat × Int32) ⊕ ((Nat ⊕ Int32) × gMem))), bb_L_law_1009 Z M kc kn x2 x3 x4 x5 x6 x7 x10 x11 x12 x19 x20 x21 x23 x24 x26 = some z → (Sum.elim (fun (q : gMem × Nat × Nat × Int32) => gGo p l e rL_law s m args below meth c D cy B H0 34 q.2.1 q.2.2.1 Q 1009 [(0, vR (some (Z 400))), (2, vR x2), (3, vR x3), (4, vI x4), (5, vI x5), (6, vI x6), (7, vI x7), (10, vR x10), (11, vR x11), (12, vR x12), (19, vI x19), (20, vI x20), (21, vI x21), (23, vI x23), (24, vR x24), (26, vI q.2.2.2)] [] q.1) (Sum.elim (fun (q : gMem × Nat × Nat × Int32) => gGo p l e rL_law s m args below meth c D cy B H0 34 q.2.1 q.2.2.1 Q 59 [(0, vR (some (Z 400))), (2, vR x2), (3, vR x3), (4, vI x4), (5, vI x5), (6, vI x6), (7, vI q.2.2.2)] [] q.1) (fun (r : (Nat ⊕ Int32) × gMem) => Q = gMX below D cy B H0 args s 600086 7301442 (gzI r.1) r.2))) z → gGo p l e rL_law s m args below meth c D cy B H0 34 kc kn Q 1009 [(0, vR (some (Z 400))), (2, vR x2), (3, vR x3), (4, vI x4), (5, vI x5), (6, vI x6), (7, vI x7), (10, vR x10), (11, vR x11), (12, vR x12), (19, vI x19), (20, vI x20), (21, vI x21), (23, vI x23), (24, vR x24), (26, vI x26)] [] M := by
  intro M kc kn x2 x3 x4 x5 x6 x7 x10 x11 x12 x19 x20 x21 x23 x24 x26 z hf hK
  unfold bb_L_law_1009 at hf
  have X := gX_w X2
  refine g_iload X dL_law_1009 rfl ?_
  refine g_iload X dL_law_1011 rfl ?_
  refine g_icmp_ge (tgt := 1272) X dL_law_1013 (by decide) (fun hc => ?_) (fun hc => ?_)
  · have hf := ife_t hc hf
    refine g_iconst (v := (0 : Int32)) X dL_law_1272 (by decide) ?_
    refine g_istore (lv' := [(26, vI (0 : Int32)), (0, vR (some (Z 400))), (2, vR x2), (3, vR x3), (4, vI x4), (5, vI x5), (6, vI x6), (7, vI x7), (10, vR x10), (11, vR x11), (12, vR x12), (19, vI x19), (20, vI x20), (21, vI x21), (23, vI x23), (24, vR x24)]) X dL_law_1273 (by decide) rfl ?_
    refine g_iconst (v := (0 : Int32)) X dL_law_1275 (by decide) ?_
    refine g_istore (lv' := [(27, vI (0 : Int32)), (26, vI (0 : Int32)), (0, vR (some (Z 400))), (2, vR x2), (3, vR x3), (4, vI x4), (5, vI x5), (6, vI x6), (7, vI x7), (10, vR x10), (11, vR x11), (12, vR x12), (19, vI x19), (20, vI x20), (21, vI x21), (23, vI x23), (24, vR x24)]) X dL_law_1276 (by decide) rfl ?_
    obtain ⟨w158, hw158, hz158⟩ := oI_e hf
    subst hz158
    have hf := hw158
    refine g_sub (lvsub_of _ _ [2, 3, 4, 5, 6, 7, 8, 9, 11, 14, 15, 1, 0] rfl) ?_
    exact tl_L_law_1278 X2 hr hlx hH hne hH0 _ _ _ _ _ _ _ _ _ _ _ _ _ _ _ _ hf hK
  · have hf := ife_f hc hf
    refine g_aload_n X dL_law_1016 rfl rfl ?_
    refine g_iload X dL_law_1017 rfl ?_
    refine g_bipush (v := (8 : Int32)) X dL_law_1019 (by decide) ?_
    obtain ⟨a160, ha160, hf⟩ := dr_e hf
    obtain ⟨hT161, hf⟩ := ck_e hf
    obtain ⟨hg162, hf⟩ := ck_e hf
    rcases bx_e hf with ⟨e159, M159, hq159, hf⟩ | ⟨r159, M159, hq159, hf⟩
    · obtain ⟨w163, hw163, hz163⟩ := oI_e hf
      subst hz163
      have hf := hw163
      obtain ⟨w164, hw164, hz164⟩ := oI_e hf
      subst hz164
      have hf := hw164
      cases hf
      refine g_eqQ hK ?_
      exact g_callTV (ci := 9) (b := a160) (As := [vI x26, vI (8 : Int32)]) (st := []) (M1 := M159) X2 hne (m_X11_ground l hlx hH0 hq159) (cwV 2 X.2.2.1 gL_law_X11_ground rfl rfl rfl (by decide +kernel) ⟨Nat.le_of_ble_eq_true rfl, Nat.le_of_ble_eq_true rfl⟩) rfl rfl ha160 hT161 (by decide) rfl (Nat.le_of_ble_eq_true rfl) dL_law_1021 ⟨hg162.1, hg162.2⟩ hg162.1 hg162.2
    refine g_callXV (ci := 9) (b := a160) (As := [vI x26, vI (8 : Int32)]) (st := []) (v := some (vI r159)) (M1 := M159) X2 (m_X11_ground l hlx hH0 hq159) (cwV 2 X.2.2.1 gL_law_X11_ground rfl rfl rfl (by decide +kernel) ⟨Nat.le_of_ble_eq_true rfl, Nat.le_of_ble_eq_true rfl⟩) rfl rfl ha160 hT161 (by decide) rfl (Nat.le_of_ble_eq_true rfl) dL_law_1021 ⟨hg162.1, hg162.2⟩ ?_
    refine g_aload X dL_law_1024 rfl ?_
    refine g_iload X dL_law_1026 rfl ?_
    obtain ⟨a165, ha165, hf⟩ := dr_e hf
    obtain ⟨hT166, hf⟩ := ck_e hf
    obtain ⟨hg167, hf⟩ := ck_e hf
    refine g_aaldA X dL_law_1028 ha165 hT166 hg167 ?_
    refine g_bipush (v := (8 : Int32)) X dL_law_1029 (by decide) ?_
    obtain ⟨a168, ha168, hf⟩ := dr_e hf
    obtain ⟨hT169, hf⟩ := ck_e hf
    obtain ⟨hg170, hf⟩ := ck_e hf
    refine g_iald X dL_law_1031 ha168 hT169 hg170 ?_
    refine g_isub X dL_law_1032 ?_
    refine g_istore (lv' := [(27, vI (r159 - (mI M159 a168 ((8 : Int32)).toNatClampNeg))), (0, vR (some (Z 400))), (2, vR x2), (3, vR x3), (4, vI x4), (5, vI x5), (6, vI x6), (7, vI x7), (10, vR x10), (11, vR x11), (12, vR x12), (19, vI x19), (20, vI x20), (21, vI x21), (23, vI x23), (24, vR x24), (26, vI x26)]) X dL_law_1033 (by decide) rfl ?_
    refine g_aload X dL_law_1035 rfl ?_
    refine g_iload X dL_law_1037 rfl ?_
    obtain ⟨hg171, hf⟩ := ck_e hf
    refine g_aaldA X dL_law_1039 ha165 hT166 hg171 ?_
    refine g_iconst (v := (0 : Int32)) X dL_law_1040 (by decide) ?_
    obtain ⟨hg172, hf⟩ := ck_e hf
    refine g_iald X dL_law_1041 ha168 hT169 hg172 ?_
    refine g_iload X dL_law_1042 rfl ?_
    refine g_isub X dL_law_1044 ?_
    refine g_istore (lv' := [(28, vI ((mI M159 a168 ((0 : Int32)).toNatClampNeg) - (r159 - (mI M159 a168 ((8 : Int32)).toNatClampNeg)))), (27, vI (r159 - (mI M159 a168 ((8 : Int32)).toNatClampNeg))), (0, vR (some (Z 400))), (2, vR x2), (3, vR x3), (4, vI x4), (5, vI x5), (6, vI x6), (7, vI x7), (10, vR x10), (11, vR x11), (12, vR x12), (19, vI x19), (20, vI x20), (21, vI x21), (23, vI x23), (24, vR x24), (26, vI x26)]) X dL_law_1045 (by decide) rfl ?_
    refine g_aload_n X dL_law_1047 rfl rfl ?_
    refine g_iload X dL_law_1048 rfl ?_
    refine g_bipush (v := (7 : Int32)) X dL_law_1050 (by decide) ?_
    obtain ⟨hT174, hf⟩ := ck_e hf
    obtain ⟨hg175, hf⟩ := ck_e hf
    rcases bx_e hf with ⟨e173, M173, hq173, hf⟩ | ⟨r173, M173, hq173, hf⟩
    · obtain ⟨w176, hw176, hz176⟩ := oI_e hf
      subst hz176
      have hf := hw176
      obtain ⟨w177, hw177, hz177⟩ := oI_e hf
      subst hz177
      have hf := hw177
      cases hf
      refine g_eqQ hK ?_
      exact g_callTV (ci := 9) (b := a160) (As := [vI x26, vI (7 : Int32)]) (st := []) (M1 := M173) X2 hne (m_X11_ground l hlx hH0 hq173) (cwV 2 X.2.2.1 gL_law_X11_ground rfl rfl rfl (by decide +kernel) ⟨Nat.le_of_ble_eq_true rfl, Nat.le_of_ble_eq_true rfl⟩) rfl rfl ha160 hT174 (by decide) rfl (Nat.le_of_ble_eq_true rfl) dL_law_1052 ⟨hg175.1, hg175.2⟩ hg175.1 hg175.2
    refine g_callXV (ci := 9) (b := a160) (As := [vI x26, vI (7 : Int32)]) (st := []) (v := some (vI r173)) (M1 := M173) X2 (m_X11_ground l hlx hH0 hq173) (cwV 2 X.2.2.1 gL_law_X11_ground rfl rfl rfl (by decide +kernel) ⟨Nat.le_of_ble_eq_true rfl, Nat.le_of_ble_eq_true rfl⟩) rfl rfl ha160 hT174 (by decide) rfl (Nat.le_of_ble_eq_true rfl) dL_law_1052 ⟨hg175.1, hg175.2⟩ ?_
    refine g_aload X dL_law_1055 rfl ?_
    refine g_iload X dL_law_1057 rfl ?_
    obtain ⟨a178, ha178, hf⟩ := dr_e hf
    obtain ⟨hT179, hf⟩ := ck_e hf
    obtain ⟨hg180, hf⟩ := ck_e hf
    refine g_iald X dL_law_1059 ha178 hT179 hg180 ?_
    refine g_icmp_ne (tgt := 1156) X dL_law_1060 (by decide) (fun hc => ?_) (fun hc => ?_)
    · have hf := ife_f hc hf
      obtain ⟨w181, hw181, hz181⟩ := oI_e hf
      subst hz181
      have hf := hw181
      obtain ⟨w182, hw182, hz182⟩ := oI_e hf
      subst hz182
      have hf := hw182
      refine g_sub (lvsub_of _ _ [] rfl) ?_
      exact t_L_law_1156 X2 hr hlx hH hne hH0 _ _ _ _ hf hK
    · have hf := ife_t hc hf
      refine g_aload X dL_law_1063 rfl ?_
      refine g_iload X dL_law_1065 rfl ?_
      obtain ⟨hg183, hf⟩ := ck_e hf
      refine g_iald X dL_law_1067 ha178 hT179 hg183 ?_
      refine g_aload X dL_law_1068 rfl ?_
      refine g_iload X dL_law_1070 rfl ?_
      obtain ⟨hT184, hf⟩ := ck_e hf
      obtain ⟨hg185, hf⟩ := ck_e hf
      refine g_aaldA X dL_law_1072 ha165 hT184 hg185 ?_
      refine g_bipush (v := (6 : Int32)) X dL_law_1073 (by decide) ?_
      obtain ⟨a186, ha186, hf⟩ := dr_e hf
      obtain ⟨hT187, hf⟩ := ck_e hf
      obtain ⟨hg188, hf⟩ := ck_e hf
      refine g_iald X dL_law_1075 ha186 hT187 hg188 ?_
      refine g_icmp_gt (tgt := 1156) X dL_law_1076 (by decide) (fun hc => ?_) (fun hc => ?_)
      · have hf := ife_t hc hf
        obtain ⟨w189, hw189, hz189⟩ := oI_e hf
        subst hz189
        have hf := hw189
        obtain ⟨w190, hw190, hz190⟩ := oI_e hf
        subst hz190
        have hf := hw190
        refine g_sub (lvsub_of _ _ [] rfl) ?_
        exact t_L_law_1156 X2 hr hlx hH hne hH0 _ _ _ _ hf hK
      · have hf := ife_f hc hf
        refine g_aload_n X dL_law_1079 rfl rfl ?_
        refine g_iload X dL_law_1080 rfl ?_
        refine g_bipush (v := (6 : Int32)) X dL_law_1082 (by decide) ?_
        obtain ⟨hT192, hf⟩ := ck_e hf
        obtain ⟨hg193, hf⟩ := ck_e hf
        rcases bx_e hf with ⟨e191, M191, hq191, hf⟩ | ⟨r191, M191, hq191, hf⟩
        · obtain ⟨w194, hw194, hz194⟩ := oI_e hf
          subst hz194
          have hf := hw194
          obtain ⟨w195, hw195, hz195⟩ := oI_e hf
          subst hz195
          have hf := hw195
          cases hf
          refine g_eqQ hK ?_
          exact g_callTV (ci := 9) (b := a160) (As := [vI x26, vI (6 : Int32)]) (st := []) (M1 := M191) X2 hne (m_X11_ground l hlx hH0 hq191) (cwV 2 X.2.2.1 gL_law_X11_ground rfl rfl rfl (by decide +kernel) ⟨Nat.le_of_ble_eq_true rfl, Nat.le_of_ble_eq_true rfl⟩) rfl rfl ha160 hT192 (by decide) rfl (Nat.le_of_ble_eq_true rfl) dL_law_1084 ⟨hg193.1, hg193.2⟩ hg193.1 hg193.2
        refine g_callXV (ci := 9) (b := a160) (As := [vI x26, vI (6 : Int32)]) (st := []) (v := some (vI r191)) (M1 := M191) X2 (m_X11_ground l hlx hH0 hq191) (cwV 2 X.2.2.1 gL_law_X11_ground rfl rfl rfl (by decide +kernel) ⟨Nat.le_of_ble_eq_true rfl, Nat.le_of_ble_eq_true rfl⟩) rfl rfl ha160 hT192 (by decide) rfl (Nat.le_of_ble_eq_true rfl) dL_law_1084 ⟨hg193.1, hg193.2⟩ ?_
        refine g_aload X dL_law_1087 rfl ?_
        refine g_iload X dL_law_1089 rfl ?_
        obtain ⟨hT196, hf⟩ := ck_e hf
        obtain ⟨hg197, hf⟩ := ck_e hf
        refine g_aaldA X dL_law_1091 ha165 hT196 hg197 ?_
        refine g_bipush (v := (6 : Int32)) X dL_law_1092 (by decide) ?_
        obtain ⟨a198, ha198, hf⟩ := dr_e hf
        obtain ⟨hT199, hf⟩ := ck_e hf
        obtain ⟨hg200, hf⟩ := ck_e hf
        refine g_iald X dL_law_1094 ha198 hT199 hg200 ?_
        refine g_icmp_ne (tgt := 1156) X dL_law_1095 (by decide) (fun hc => ?_) (fun hc => ?_)
        · have hf := ife_f hc hf
          obtain ⟨w201, hw201, hz201⟩ := oI_e hf
          subst hz201
          have hf := hw201
          obtain ⟨w202, hw202, hz202⟩ := oI_e hf
          subst hz202
          have hf := hw202
          refine g_sub (lvsub_of _ _ [] rfl) ?_
          exact t_L_law_1156 X2 hr hlx hH hne hH0 _ _ _ _ hf hK
        · have hf := ife_t hc hf
          refine g_iload X dL_law_1098 rfl ?_
          refine g_if_lt (tgt := 1156) X dL_law_1100 (by decide) (fun hc => ?_) (fun hc => ?_)
          · have hf := ife_t hc hf
            obtain ⟨w203, hw203, hz203⟩ := oI_e hf
            subst hz203
            have hf := hw203
            obtain ⟨w204, hw204, hz204⟩ := oI_e hf
            subst hz204
            have hf := hw204
            refine g_sub (lvsub_of _ _ [] rfl) ?_
            exact t_L_law_1156 X2 hr hlx hH hne hH0 _ _ _ _ hf hK
          · have hf := ife_f hc hf
            refine g_iload X dL_law_1103 rfl ?_
            refine g_if_lt (tgt := 1156) X dL_law_1105 (by decide) (fun hc => ?_) (fun hc => ?_)
            · have hf := ife_t hc hf
              obtain ⟨w205, hw205, hz205⟩ := oI_e hf
              subst hz205
              have hf := hw205
              obtain ⟨w206, hw206, hz206⟩ := oI_e hf
              subst hz206
              have hf := hw206
              refine g_sub (lvsub_of _ _ [] rfl) ?_
              exact t_L_law_1156 X2 hr hlx hH hne hH0 _ _ _ _ hf hK
            · have hf := ife_f hc hf
              refine g_aload_n X dL_law_1108 rfl rfl ?_
              refine g_iload X dL_law_1109 rfl ?_
              refine g_iconst (v := (0 : Int32)) X dL_law_1111 (by decide) ?_
              obtain ⟨hT208, hf⟩ := ck_e hf
              obtain ⟨hg209, hf⟩ := ck_e hf
              rcases bx_e hf with ⟨e207, M207, hq207, hf⟩ | ⟨r207, M207, hq207, hf⟩
              · obtain ⟨w210, hw210, hz210⟩ := oI_e hf
                subst hz210
                have hf := hw210
                obtain ⟨w211, hw211, hz211⟩ := oI_e hf
                subst hz211
                have hf := hw211
                cases hf
                refine g_eqQ hK ?_
                exact g_callTV (ci := 9) (b := a160) (As := [vI x26, vI (0 : Int32)]) (st := []) (M1 := M207) X2 hne (m_X11_ground l hlx hH0 hq207) (cwV 2 X.2.2.1 gL_law_X11_ground rfl rfl rfl (by decide +kernel) ⟨Nat.le_of_ble_eq_true rfl, Nat.le_of_ble_eq_true rfl⟩) rfl rfl ha160 hT208 (by decide) rfl (Nat.le_of_ble_eq_true rfl) dL_law_1112 ⟨hg209.1, hg209.2⟩ hg209.1 hg209.2
              refine g_callXV (ci := 9) (b := a160) (As := [vI x26, vI (0 : Int32)]) (st := []) (v := some (vI r207)) (M1 := M207) X2 (m_X11_ground l hlx hH0 hq207) (cwV 2 X.2.2.1 gL_law_X11_ground rfl rfl rfl (by decide +kernel) ⟨Nat.le_of_ble_eq_true rfl, Nat.le_of_ble_eq_true rfl⟩) rfl rfl ha160 hT208 (by decide) rfl (Nat.le_of_ble_eq_true rfl) dL_law_1112 ⟨hg209.1, hg209.2⟩ ?_
              refine g_iload X dL_law_1115 rfl ?_
              refine g_iload X dL_law_1117 rfl ?_
              refine g_bipush (v := (6 : Int32)) X dL_law_1119 (by decide) ?_
              refine g_idiv X dL_law_1121 (by decide) ?_
              refine g_iadd X dL_law_1122 ?_
              refine g_icmp_gt (tgt := 1156) X dL_law_1123 (by decide) (fun hc => ?_) (fun hc => ?_)
              · have hf := ife_t hc hf
                obtain ⟨w212, hw212, hz212⟩ := oI_e hf
                subst hz212
                have hf := hw212
                obtain ⟨w213, hw213, hz213⟩ := oI_e hf
                subst hz213
                have hf := hw213
                refine g_sub (lvsub_of _ _ [] rfl) ?_
                exact t_L_law_1156 X2 hr hlx hH hne hH0 _ _ _ _ hf hK
              · have hf := ife_f hc hf
                refine g_aload_n X dL_law_1126 rfl rfl ?_
                refine g_iload X dL_law_1127 rfl ?_
                refine g_iconst (v := (0 : Int32)) X dL_law_1129 (by decide) ?_
                obtain ⟨hT215, hf⟩ := ck_e hf
                obtain ⟨hg216, hf⟩ := ck_e hf
                rcases bx_e hf with ⟨e214, M214, hq214, hf⟩ | ⟨r214, M214, hq214, hf⟩
                · obtain ⟨w217, hw217, hz217⟩ := oI_e hf
                  subst hz217
                  have hf := hw217
                  obtain ⟨w218, hw218, hz218⟩ := oI_e hf
                  subst hz218
                  have hf := hw218
                  cases hf
                  refine g_eqQ hK ?_
                  exact g_callTV (ci := 9) (b := a160) (As := [vI x26, vI (0 : Int32)]) (st := []) (M1 := M214) X2 hne (m_X11_ground l hlx hH0 hq214) (cwV 2 X.2.2.1 gL_law_X11_ground rfl rfl rfl (by decide +kernel) ⟨Nat.le_of_ble_eq_true rfl, Nat.le_of_ble_eq_true rfl⟩) rfl rfl ha160 hT215 (by decide) rfl (Nat.le_of_ble_eq_true rfl) dL_law_1130 ⟨hg216.1, hg216.2⟩ hg216.1 hg216.2
                refine g_callXV (ci := 9) (b := a160) (As := [vI x26, vI (0 : Int32)]) (st := []) (v := some (vI r214)) (M1 := M214) X2 (m_X11_ground l hlx hH0 hq214) (cwV 2 X.2.2.1 gL_law_X11_ground rfl rfl rfl (by decide +kernel) ⟨Nat.le_of_ble_eq_true rfl, Nat.le_of_ble_eq_true rfl⟩) rfl rfl ha160 hT215 (by decide) rfl (Nat.le_of_ble_eq_true rfl) dL_law_1130 ⟨hg216.1, hg216.2⟩ ?_
                refine g_iload X dL_law_1133 rfl ?_
                refine g_bipush (v := (99 : Int32)) X dL_law_1135 (by decide) ?_
                refine g_isub X dL_law_1137 ?_
                refine g_icmp_lt (tgt := 1156) X dL_law_1138 (by decide) (fun hc => ?_) (fun hc => ?_)
                · have hf := ife_t hc hf
                  obtain ⟨w219, hw219, hz219⟩ := oI_e hf
                  subst hz219
                  have hf := hw219
                  obtain ⟨w220, hw220, hz220⟩ := oI_e hf
                  subst hz220
                  have hf := hw220
                  refine g_sub (lvsub_of _ _ [] rfl) ?_
                  exact t_L_law_1156 X2 hr hlx hH hne hH0 _ _ _ _ hf hK
                · have hf := ife_f hc hf
                  refine g_iload X dL_law_1141 rfl ?_
                  refine g_if_ne (tgt := 1158) X dL_law_1143 (by decide) (fun hc => ?_) (fun hc => ?_)
                  · have hf := ife_f hc hf
                    refine g_sub (lvsub_of _ _ [2, 3, 4, 5, 6, 7, 8, 9, 10, 11, 12, 13, 14, 15, 16, 17] rfl) ?_
                    exact t_L_law_1158 X2 hr hlx hH hne hH0 _ _ _ _ _ _ _ _ _ _ _ _ _ _ _ _ _ _ _ hf hK
                  · have hf := ife_t hc hf
                    refine g_aload_n X dL_law_1146 rfl rfl ?_
                    refine g_iload X dL_law_1147 rfl ?_
                    refine g_iconst (v := (0 : Int32)) X dL_law_1149 (by decide) ?_
                    obtain ⟨hT222, hf⟩ := ck_e hf
                    obtain ⟨hg223, hf⟩ := ck_e hf
                    rcases bx_e hf with ⟨e221, M221, hq221, hf⟩ | ⟨r221, M221, hq221, hf⟩
                    · obtain ⟨w224, hw224, hz224⟩ := oI_e hf
                      subst hz224
                      have hf := hw224
                      obtain ⟨w225, hw225, hz225⟩ := oI_e hf
                      subst hz225
                      have hf := hw225
                      cases hf
                      refine g_eqQ hK ?_
                      exact g_callTV (ci := 9) (b := a160) (As := [vI x26, vI (0 : Int32)]) (st := []) (M1 := M221) X2 hne (m_X11_ground l hlx hH0 hq221) (cwV 2 X.2.2.1 gL_law_X11_ground rfl rfl rfl (by decide +kernel) ⟨Nat.le_of_ble_eq_true rfl, Nat.le_of_ble_eq_true rfl⟩) rfl rfl ha160 hT222 (by decide) rfl (Nat.le_of_ble_eq_true rfl) dL_law_1150 ⟨hg223.1, hg223.2⟩ hg223.1 hg223.2
                    refine g_callXV (ci := 9) (b := a160) (As := [vI x26, vI (0 : Int32)]) (st := []) (v := some (vI r221)) (M1 := M221) X2 (m_X11_ground l hlx hH0 hq221) (cwV 2 X.2.2.1 gL_law_X11_ground rfl rfl rfl (by decide +kernel) ⟨Nat.le_of_ble_eq_true rfl, Nat.le_of_ble_eq_true rfl⟩) rfl rfl ha160 hT222 (by decide) rfl (Nat.le_of_ble_eq_true rfl) dL_law_1150 ⟨hg223.1, hg223.2⟩ ?_
                    refine g_if_eq (tgt := 1158) X dL_law_1153 (by decide) (fun hc => ?_) (fun hc => ?_)
                    · have hf := ife_t hc hf
                      refine g_sub (lvsub_of _ _ [2, 3, 4, 5, 6, 7, 8, 9, 10, 11, 12, 13, 14, 15, 16, 17] rfl) ?_
                      exact t_L_law_1158 X2 hr hlx hH hne hH0 _ _ _ _ _ _ _ _ _ _ _ _ _ _ _ _ _ _ _ hf hK
                    · have hf := ife_f hc hf
                      obtain ⟨w226, hw226, hz226⟩ := oI_e hf
                      subst hz226
                      have hf := hw226
                      obtain ⟨w227, hw227, hz227⟩ := oI_e hf
                      subst hz227
                      have hf := hw227
                      refine g_sub (lvsub_of _ _ [] rfl) ?_
                      exact t_L_law_1156 X2 hr hlx hH hne hH0 _ _ _ _ hf hK
set_option maxHeartbeats 4000000 in
set_option maxRecDepth 100000 in
theorem tl_L_law_1009 (X2 : gX p s m args meth c D cy B (gSt2 Z B H0) RL cL_law wsL_law 34) (hr : meth.sig.returnType = (some .boolean)) (hlx : l.stackTraces = false) (hH : ∀ q : Nat, q < B → s.heap[q]? = H0[q]?) (hne : ∀ x ∈ c.exceptionTable.toList, False) (hH0 : H0.size = B) {Q : State → Prop} : ∀ (M : gMem) (kc : Nat) (kn : Nat) (x2 : Option Nat) (x3 : Option Nat) (x4 : Int32) (x5 : Int32) (x6 : Int32) (x7 : Int32) (x10 : Option Nat) (x11 : Option Nat) (x12 : Option Nat) (x19 : Int32) (x20 : Int32) (x21 : Int32) (x23 : Int32) (x24 : Option Nat) (x26 : Int32) (z : (gMem × Nat × Nat × Int32) ⊕ ((Nat ⊕ Int32) × gMem)), lp_L_law_1009 Z M kc kn x2 x3 x4 x5 x6 x7 x10 x11 x12 x19 x20 x21 x23 x24 x26 = some z → (Sum.elim (fun (q : gMem × Nat × Nat × Int32) => gGo p l e rL_law s m args below meth c D cy B H0 34 q.2.1 q.2.2.1 Q 59 [(0, vR (some (Z 400))), (2, vR x2), (3, vR x3), (4, vI x4), (5, vI x5), (6, vI x6), (7, vI q.2.2.2)] [] q.1) (fun (r : (Nat ⊕ Int32) × gMem) => Q = gMX below D cy B H0 args s 600086 7301442 (gzI r.1) r.2)) z → gGo p l e rL_law s m args below meth c D cy B H0 34 kc kn Q 1009 [(0, vR (some (Z 400))), (2, vR x2), (3, vR x3), (4, vI x4), (5, vI x5), (6, vI x6), (7, vI x7), (10, vR x10), (11, vR x11), (12, vR x12), (19, vI x19), (20, vI x20), (21, vI x21), (23, vI x23), (24, vR x24), (26, vI x26)] [] M := by
  intro M kc kn x2 x3 x4 x5 x6 x7 x10 x11 x12 x19 x20 x21 x23 x24 x26 z hf hK
  refine lp_ind (P := (fun (q : gMem × Nat × Nat × Int32) (z : (gMem × Nat × Nat × Int32) ⊕ ((Nat ⊕ Int32) × gMem)) => (Sum.elim (fun (q : gMem × Nat × Nat × Int32) => gGo p l e rL_law s m args below meth c D cy B H0 34 q.2.1 q.2.2.1 Q 59 [(0, vR (some (Z 400))), (2, vR x2), (3, vR x3), (4, vI x4), (5, vI x5), (6, vI x6), (7, vI q.2.2.2)] [] q.1) (fun (r : (Nat ⊕ Int32) × gMem) => Q = gMX below D cy B H0 args s 600086 7301442 (gzI r.1) r.2)) z → gGo p l e rL_law s m args below meth c D cy B H0 34 q.2.1 q.2.2.1 Q 1009 [(0, vR (some (Z 400))), (2, vR x2), (3, vR x3), (4, vI x4), (5, vI x5), (6, vI x6), (7, vI x7), (10, vR x10), (11, vR x11), (12, vR x12), (19, vI x19), (20, vI x20), (21, vI x21), (23, vI x23), (24, vR x24), (26, vI q.2.2.2)] [] q.1)) (fun q z hq => ?_) _ _ hf hK
  intro hK
  obtain ⟨w, hw, hm⟩ := hq
  refine tb_L_law_1009 X2 hr hlx hH hne hH0 _ _ _ _ _ _ _ _ _ _ _ _ _ _ _ _ _ _ w hw ?_
  cases w with
  | inl a => exact hm hK
  | inr b => cases hm; exact hK
set_option maxHeartbeats 4000000 in
set_option maxRecDepth 100000 in
theorem tb_L_law_950 (X2 : gX p s m args meth c D cy B (gSt2 Z B H0) RL cL_law wsL_law 34) (hr : meth.sig.returnType = (some .boolean)) (hlx : l.stackTraces = false) (hH : ∀ q : Nat, q < B → s.heap[q]? = H0[q]?) (hne : ∀ x ∈ c.exceptionTable.toList, False) (hH0 : H0.size = B) {Q : State → Prop} : ∀ (M : gMem) (kc : Nat) (kn : Nat) (x2 : Option Nat) (x3 : Option Nat) (x4 : Int32) (x5 : Int32) (x6 : Int32) (x7 : Int32) (x10 : Option Nat) (x11 : Option Nat) (x12 : Option Nat) (x19 : Int32) (x20 : Int32) (x21 : Int32) (x23 : Int32) (x24 : Option Nat) (x25 : Int32) (x26 : Int32) (x30 : Int32) (x31 : Int32) (z : (gMem × Nat × Nat × Int32 × Int32) ⊕ ((gMem × Nat × Nat × Int32 × Int32) ⊕ ((gMem × Nat × Nat × Int32) ⊕ ((Nat ⊕ Int32) × gMem)))), bb_L_law_950 Z M kc kn x2 x3 x4 x5 x6 x7 x10 x11 x12 x19 x20 x21 x23 x24 x25 x26 x30 x31 = some z → (Sum.elim (fun (q : gMem × Nat × Nat × Int32 × Int32) => gGo p l e rL_law s m args below meth c D cy B H0 34 q.2.1 q.2.2.1 Q 950 [(0, vR (some (Z 400))), (2, vR x2), (3, vR x3), (4, vI x4), (5, vI x5), (6, vI x6), (7, vI x7), (10, vR x10), (11, vR x11), (12, vR x12), (19, vI x19), (20, vI x20), (21, vI x21), (23, vI x23), (24, vR x24), (25, vI x25), (26, vI x26), (30, vI q.2.2.2.1), (31, vI q.2.2.2.2)] [] q.1) (Sum.elim (fun (q : gMem × Nat × Nat × Int32 × Int32) => gGo p l e rL_law s m args below meth c D cy B H0 34 q.2.1 q.2.2.1 Q 680 [(0, vR (some (Z 400))), (2, vR x2), (3, vR x3), (4, vI x4), (5, vI x5), (6, vI x6), (7, vI x7), (10, vR x10), (11, vR x11), (12, vR x12), (19, vI x19), (20, vI x20), (21, vI x21), (23, vI x23), (24, vR x24), (25, vI q.2.2.2.1), (26, vI q.2.2.2.2)] [] q.1) (Sum.elim (fun (q : gMem × Nat × Nat × Int32) => gGo p l e rL_law s m args below meth c D cy B H0 34 q.2.1 q.2.2.1 Q 59 [(0, vR (some (Z 400))), (2, vR x2), (3, vR x3), (4, vI x4), (5, vI x5), (6, vI x6), (7, vI q.2.2.2)] [] q.1) (fun (r : (Nat ⊕ Int32) × gMem) => Q = gMX below D cy B H0 args s 600086 7301442 (gzI r.1) r.2)))) z → gGo p l e rL_law s m args below meth c D cy B H0 34 kc kn Q 950 [(0, vR (some (Z 400))), (2, vR x2), (3, vR x3), (4, vI x4), (5, vI x5), (6, vI x6), (7, vI x7), (10, vR x10), (11, vR x11), (12, vR x12), (19, vI x19), (20, vI x20), (21, vI x21), (23, vI x23), (24, vR x24), (25, vI x25), (26, vI x26), (30, vI x30), (31, vI x31)] [] M := by
  intro M kc kn x2 x3 x4 x5 x6 x7 x10 x11 x12 x19 x20 x21 x23 x24 x25 x26 x30 x31 z hf hK
  unfold bb_L_law_950 at hf
  have X := gX_w X2
  refine g_iload X dL_law_950 rfl ?_
  refine g_iload X dL_law_952 rfl ?_
  refine g_icmp_ge (tgt := 976) X dL_law_954 (by decide) (fun hc => ?_) (fun hc => ?_)
  · have hf := ife_t hc hf
    refine g_iload X dL_law_976 rfl ?_
    refine g_aload_n X dL_law_978 rfl rfl ?_
    refine g_iload X dL_law_979 rfl ?_
    refine g_bipush (v := (9 : Int32)) X dL_law_981 (by decide) ?_
    obtain ⟨a229, ha229, hf⟩ := dr_e hf
    obtain ⟨hT230, hf⟩ := ck_e hf
    obtain ⟨hg231, hf⟩ := ck_e hf
    rcases bx_e hf with ⟨e228, M228, hq228, hf⟩ | ⟨r228, M228, hq228, hf⟩
    · obtain ⟨w232, hw232, hz232⟩ := oI_e hf
      subst hz232
      have hf := hw232
      obtain ⟨w233, hw233, hz233⟩ := oI_e hf
      subst hz233
      have hf := hw233
      obtain ⟨w234, hw234, hz234⟩ := oI_e hf
      subst hz234
      have hf := hw234
      cases hf
      refine g_eqQ hK ?_
      exact g_callTV (ci := 9) (b := a229) (As := [vI x26, vI (9 : Int32)]) (st := [vI x30]) (M1 := M228) X2 hne (m_X11_fisher l hlx hH0 hq228) (cwV 2 X.2.2.1 gL_law_X11_fisher rfl rfl rfl (by decide +kernel) ⟨Nat.le_of_ble_eq_true rfl, Nat.le_of_ble_eq_true rfl⟩) rfl rfl ha229 hT230 (by decide) rfl (Nat.le_of_ble_eq_true rfl) dL_law_983 ⟨hg231.1, hg231.2⟩ hg231.1 hg231.2
    refine g_callXV (ci := 9) (b := a229) (As := [vI x26, vI (9 : Int32)]) (st := [vI x30]) (v := some (vI r228)) (M1 := M228) X2 (m_X11_fisher l hlx hH0 hq228) (cwV 2 X.2.2.1 gL_law_X11_fisher rfl rfl rfl (by decide +kernel) ⟨Nat.le_of_ble_eq_true rfl, Nat.le_of_ble_eq_true rfl⟩) rfl rfl ha229 hT230 (by decide) rfl (Nat.le_of_ble_eq_true rfl) dL_law_983 ⟨hg231.1, hg231.2⟩ ?_
    refine g_icmp_eq (tgt := 991) X dL_law_986 (by decide) (fun hc => ?_) (fun hc => ?_)
    · have hf := ife_t hc hf
      refine g_iinc (v := (1 : Int32)) (lv' := [(26, vI (x26 + (1 : Int32))), (0, vR (some (Z 400))), (2, vR x2), (3, vR x3), (4, vI x4), (5, vI x5), (6, vI x6), (7, vI x7), (10, vR x10), (11, vR x11), (12, vR x12), (19, vI x19), (20, vI x20), (21, vI x21), (23, vI x23), (24, vR x24), (25, vI x25), (30, vI x30), (31, vI x31)]) X dL_law_991 rfl (by decide) (by decide) rfl ?_
      refine g_goto (tgt := 680) X dL_law_994 (by decide) ?_
      obtain ⟨w235, hw235, hz235⟩ := oI_e hf
      subst hz235
      have hf := hw235
      cases hf
      refine g_sub (lvsub_of _ _ [1, 2, 3, 4, 5, 6, 7, 8, 9, 10, 11, 12, 13, 14, 15, 16, 0] rfl) ?_
      exact hK
    · have hf := ife_f hc hf
      refine g_iconst (v := (0 : Int32)) X dL_law_989 (by decide) ?_
      obtain ⟨hg236, hf⟩ := ck_e hf
      obtain ⟨w237, hw237, hz237⟩ := oI_e hf
      subst hz237
      have hf := hw237
      obtain ⟨w238, hw238, hz238⟩ := oI_e hf
      subst hz238
      have hf := hw238
      obtain ⟨w239, hw239, hz239⟩ := oI_e hf
      subst hz239
      have hf := hw239
      cases hf
      refine g_eqQ hK ?_
      refine g_wide (k' := 600086) (n' := 7301442) hg236.1 hg236.2 ?_
      refine g_xret ?_
      exact g_zret X hr (gnb (Or.inl rfl)) dL_law_990
  · have hf := ife_f hc hf
    refine g_iload X dL_law_957 rfl ?_
    refine g_aload_n X dL_law_959 rfl rfl ?_
    refine g_iload X dL_law_960 rfl ?_
    refine g_iload X dL_law_962 rfl ?_
    obtain ⟨a241, ha241, hf⟩ := dr_e hf
    obtain ⟨hT242, hf⟩ := ck_e hf
    obtain ⟨hg243, hf⟩ := ck_e hf
    rcases bx_e hf with ⟨e240, M240, hq240, hf⟩ | ⟨r240, M240, hq240, hf⟩
    · obtain ⟨w244, hw244, hz244⟩ := oI_e hf
      subst hz244
      have hf := hw244
      obtain ⟨w245, hw245, hz245⟩ := oI_e hf
      subst hz245
      have hf := hw245
      obtain ⟨w246, hw246, hz246⟩ := oI_e hf
      subst hz246
      have hf := hw246
      cases hf
      refine g_eqQ hK ?_
      exact g_callTV (ci := 9) (b := a241) (As := [vI x31, vI x26]) (st := [vI x30]) (M1 := M240) X2 hne (m_X11_took l hlx hH0 hq240) (cwV 2 X.2.2.1 gL_law_X11_took rfl rfl rfl (by decide +kernel) ⟨Nat.le_of_ble_eq_true rfl, Nat.le_of_ble_eq_true rfl⟩) rfl rfl ha241 hT242 (by decide) rfl (Nat.le_of_ble_eq_true rfl) dL_law_964 ⟨hg243.1, hg243.2⟩ hg243.1 hg243.2
    refine g_callXV (ci := 9) (b := a241) (As := [vI x31, vI x26]) (st := [vI x30]) (v := some (vI r240)) (M1 := M240) X2 (m_X11_took l hlx hH0 hq240) (cwV 2 X.2.2.1 gL_law_X11_took rfl rfl rfl (by decide +kernel) ⟨Nat.le_of_ble_eq_true rfl, Nat.le_of_ble_eq_true rfl⟩) rfl rfl ha241 hT242 (by decide) rfl (Nat.le_of_ble_eq_true rfl) dL_law_964 ⟨hg243.1, hg243.2⟩ ?_
    refine g_iadd X dL_law_967 ?_
    refine g_istore (lv' := [(30, vI (x30 + r240)), (0, vR (some (Z 400))), (2, vR x2), (3, vR x3), (4, vI x4), (5, vI x5), (6, vI x6), (7, vI x7), (10, vR x10), (11, vR x11), (12, vR x12), (19, vI x19), (20, vI x20), (21, vI x21), (23, vI x23), (24, vR x24), (25, vI x25), (26, vI x26), (31, vI x31)]) X dL_law_968 (by decide) rfl ?_
    refine g_iinc (v := (1 : Int32)) (lv' := [(31, vI (x31 + (1 : Int32))), (30, vI (x30 + r240)), (0, vR (some (Z 400))), (2, vR x2), (3, vR x3), (4, vI x4), (5, vI x5), (6, vI x6), (7, vI x7), (10, vR x10), (11, vR x11), (12, vR x12), (19, vI x19), (20, vI x20), (21, vI x21), (23, vI x23), (24, vR x24), (25, vI x25), (26, vI x26)]) X dL_law_970 rfl (by decide) (by decide) rfl ?_
    refine g_goto (tgt := 950) X dL_law_973 (by decide) ?_
    cases hf
    refine g_sub (lvsub_of _ _ [2, 3, 4, 5, 6, 7, 8, 9, 10, 11, 12, 13, 14, 15, 16, 17, 18, 1, 0] rfl) ?_
    exact hK
set_option maxHeartbeats 4000000 in
set_option maxRecDepth 100000 in
theorem tl_L_law_950 (X2 : gX p s m args meth c D cy B (gSt2 Z B H0) RL cL_law wsL_law 34) (hr : meth.sig.returnType = (some .boolean)) (hlx : l.stackTraces = false) (hH : ∀ q : Nat, q < B → s.heap[q]? = H0[q]?) (hne : ∀ x ∈ c.exceptionTable.toList, False) (hH0 : H0.size = B) {Q : State → Prop} : ∀ (M : gMem) (kc : Nat) (kn : Nat) (x2 : Option Nat) (x3 : Option Nat) (x4 : Int32) (x5 : Int32) (x6 : Int32) (x7 : Int32) (x10 : Option Nat) (x11 : Option Nat) (x12 : Option Nat) (x19 : Int32) (x20 : Int32) (x21 : Int32) (x23 : Int32) (x24 : Option Nat) (x25 : Int32) (x26 : Int32) (x30 : Int32) (x31 : Int32) (z : (gMem × Nat × Nat × Int32 × Int32) ⊕ ((gMem × Nat × Nat × Int32) ⊕ ((Nat ⊕ Int32) × gMem))), lp_L_law_950 Z M kc kn x2 x3 x4 x5 x6 x7 x10 x11 x12 x19 x20 x21 x23 x24 x25 x26 x30 x31 = some z → (Sum.elim (fun (q : gMem × Nat × Nat × Int32 × Int32) => gGo p l e rL_law s m args below meth c D cy B H0 34 q.2.1 q.2.2.1 Q 680 [(0, vR (some (Z 400))), (2, vR x2), (3, vR x3), (4, vI x4), (5, vI x5), (6, vI x6), (7, vI x7), (10, vR x10), (11, vR x11), (12, vR x12), (19, vI x19), (20, vI x20), (21, vI x21), (23, vI x23), (24, vR x24), (25, vI q.2.2.2.1), (26, vI q.2.2.2.2)] [] q.1) (Sum.elim (fun (q : gMem × Nat × Nat × Int32) => gGo p l e rL_law s m args below meth c D cy B H0 34 q.2.1 q.2.2.1 Q 59 [(0, vR (some (Z 400))), (2, vR x2), (3, vR x3), (4, vI x4), (5, vI x5), (6, vI x6), (7, vI q.2.2.2)] [] q.1) (fun (r : (Nat ⊕ Int32) × gMem) => Q = gMX below D cy B H0 args s 600086 7301442 (gzI r.1) r.2))) z → gGo p l e rL_law s m args below meth c D cy B H0 34 kc kn Q 950 [(0, vR (some (Z 400))), (2, vR x2), (3, vR x3), (4, vI x4), (5, vI x5), (6, vI x6), (7, vI x7), (10, vR x10), (11, vR x11), (12, vR x12), (19, vI x19), (20, vI x20), (21, vI x21), (23, vI x23), (24, vR x24), (25, vI x25), (26, vI x26), (30, vI x30), (31, vI x31)] [] M := by
  intro M kc kn x2 x3 x4 x5 x6 x7 x10 x11 x12 x19 x20 x21 x23 x24 x25 x26 x30 x31 z hf hK
  refine lp_ind (P := (fun (q : gMem × Nat × Nat × Int32 × Int32) (z : (gMem × Nat × Nat × Int32 × Int32) ⊕ ((gMem × Nat × Nat × Int32) ⊕ ((Nat ⊕ Int32) × gMem))) => (Sum.elim (fun (q : gMem × Nat × Nat × Int32 × Int32) => gGo p l e rL_law s m args below meth c D cy B H0 34 q.2.1 q.2.2.1 Q 680 [(0, vR (some (Z 400))), (2, vR x2), (3, vR x3), (4, vI x4), (5, vI x5), (6, vI x6), (7, vI x7), (10, vR x10), (11, vR x11), (12, vR x12), (19, vI x19), (20, vI x20), (21, vI x21), (23, vI x23), (24, vR x24), (25, vI q.2.2.2.1), (26, vI q.2.2.2.2)] [] q.1) (Sum.elim (fun (q : gMem × Nat × Nat × Int32) => gGo p l e rL_law s m args below meth c D cy B H0 34 q.2.1 q.2.2.1 Q 59 [(0, vR (some (Z 400))), (2, vR x2), (3, vR x3), (4, vI x4), (5, vI x5), (6, vI x6), (7, vI q.2.2.2)] [] q.1) (fun (r : (Nat ⊕ Int32) × gMem) => Q = gMX below D cy B H0 args s 600086 7301442 (gzI r.1) r.2))) z → gGo p l e rL_law s m args below meth c D cy B H0 34 q.2.1 q.2.2.1 Q 950 [(0, vR (some (Z 400))), (2, vR x2), (3, vR x3), (4, vI x4), (5, vI x5), (6, vI x6), (7, vI x7), (10, vR x10), (11, vR x11), (12, vR x12), (19, vI x19), (20, vI x20), (21, vI x21), (23, vI x23), (24, vR x24), (25, vI x25), (26, vI x26), (30, vI q.2.2.2.1), (31, vI q.2.2.2.2)] [] q.1)) (fun q z hq => ?_) _ _ hf hK
  intro hK
  obtain ⟨w, hw, hm⟩ := hq
  refine tb_L_law_950 X2 hr hlx hH hne hH0 _ _ _ _ _ _ _ _ _ _ _ _ _ _ _ _ _ _ _ _ _ w hw ?_
  cases w with
  | inl a => exact hm hK
  | inr b => cases hm; exact hK
set_option maxHeartbeats 4000000 in
set_option maxRecDepth 100000 in
theorem tb_L_law_903 (X2 : gX p s m args meth c D cy B (gSt2 Z B H0) RL cL_law wsL_law 34) (hr : meth.sig.returnType = (some .boolean)) (hlx : l.stackTraces = false) (hH : ∀ q : Nat, q < B → s.heap[q]? = H0[q]?) (hne : ∀ x ∈ c.exceptionTable.toList, False) (hH0 : H0.size = B) {Q : State → Prop} : ∀ (M : gMem) (kc : Nat) (kn : Nat) (x2 : Option Nat) (x3 : Option Nat) (x4 : Int32) (x5 : Int32) (x6 : Int32) (x7 : Int32) (x10 : Option Nat) (x11 : Option Nat) (x12 : Option Nat) (x19 : Int32) (x20 : Int32) (x21 : Int32) (x23 : Int32) (x24 : Option Nat) (x25 : Int32) (x26 : Int32) (x30 : Option Nat) (x31 : Int32) (x32 : Int32) (z : (gMem × Nat × Nat × Int32) ⊕ ((gMem × Nat × Nat × Int32 × Int32) ⊕ ((gMem × Nat × Nat × Int32) ⊕ ((Nat ⊕ Int32) × gMem)))), bb_L_law_903 Z M kc kn x2 x3 x4 x5 x6 x7 x10 x11 x12 x19 x20 x21 x23 x24 x25 x26 x30 x31 x32 = some z → (Sum.elim (fun (q : gMem × Nat × Nat × Int32) => gGo p l e rL_law s m args below meth c D cy B H0 34 q.2.1 q.2.2.1 Q 903 [(0, vR (some (Z 400))), (2, vR x2), (3, vR x3), (4, vI x4), (5, vI x5), (6, vI x6), (7, vI x7), (10, vR x10), (11, vR x11), (12, vR x12), (19, vI x19), (20, vI x20), (21, vI x21), (23, vI x23), (24, vR x24), (25, vI x25), (26, vI x26), (30, vR x30), (31, vI x31), (32, vI q.2.2.2)] [] q.1) (Sum.elim (fun (q : gMem × Nat × Nat × Int32 × Int32) => gGo p l e rL_law s m args below meth c D cy B H0 34 q.2.1 q.2.2.1 Q 680 [(0, vR (some (Z 400))), (2, vR x2), (3, vR x3), (4, vI x4), (5, vI x5), (6, vI x6), (7, vI x7), (10, vR x10), (11, vR x11), (12, vR x12), (19, vI x19), (20, vI x20), (21, vI x21), (23, vI x23), (24, vR x24), (25, vI q.2.2.2.1), (26, vI q.2.2.2.2)] [] q.1) (Sum.elim (fun (q : gMem × Nat × Nat × Int32) => gGo p l e rL_law s m args below meth c D cy B H0 34 q.2.1 q.2.2.1 Q 59 [(0, vR (some (Z 400))), (2, vR x2), (3, vR x3), (4, vI x4), (5, vI x5), (6, vI x6), (7, vI q.2.2.2)] [] q.1) (fun (r : (Nat ⊕ Int32) × gMem) => Q = gMX below D cy B H0 args s 600086 7301442 (gzI r.1) r.2)))) z → gGo p l e rL_law s m args below meth c D cy B H0 34 kc kn Q 903 [(0, vR (some (Z 400))), (2, vR x2), (3, vR x3), (4, vI x4), (5, vI x5), (6, vI x6), (7, vI x7), (10, vR x10), (11, vR x11), (12, vR x12), (19, vI x19), (20, vI x20), (21, vI x21), (23, vI x23), (24, vR x24), (25, vI x25), (26, vI x26), (30, vR x30), (31, vI x31), (32, vI x32)] [] M := by
  intro M kc kn x2 x3 x4 x5 x6 x7 x10 x11 x12 x19 x20 x21 x23 x24 x25 x26 x30 x31 x32 z hf hK
  unfold bb_L_law_903 at hf
  have X := gX_w X2
  refine g_iload X dL_law_903 rfl ?_
  refine g_iload X dL_law_905 rfl ?_
  refine g_icmp_ge (tgt := 944) X dL_law_907 (by decide) (fun hc => ?_) (fun hc => ?_)
  · have hf := ife_t hc hf
    refine g_iconst (v := (0 : Int32)) X dL_law_944 (by decide) ?_
    refine g_istore (lv' := [(30, vI (0 : Int32)), (0, vR (some (Z 400))), (2, vR x2), (3, vR x3), (4, vI x4), (5, vI x5), (6, vI x6), (7, vI x7), (10, vR x10), (11, vR x11), (12, vR x12), (19, vI x19), (20, vI x20), (21, vI x21), (23, vI x23), (24, vR x24), (25, vI x25), (26, vI x26), (31, vI x31), (32, vI x32)]) X dL_law_945 (by decide) rfl ?_
    refine g_iconst (v := (0 : Int32)) X dL_law_947 (by decide) ?_
    refine g_istore (lv' := [(31, vI (0 : Int32)), (30, vI (0 : Int32)), (0, vR (some (Z 400))), (2, vR x2), (3, vR x3), (4, vI x4), (5, vI x5), (6, vI x6), (7, vI x7), (10, vR x10), (11, vR x11), (12, vR x12), (19, vI x19), (20, vI x20), (21, vI x21), (23, vI x23), (24, vR x24), (25, vI x25), (26, vI x26), (32, vI x32)]) X dL_law_948 (by decide) rfl ?_
    obtain ⟨w247, hw247, hz247⟩ := oI_e hf
    subst hz247
    have hf := hw247
    refine g_sub (lvsub_of _ _ [2, 3, 4, 5, 6, 7, 8, 9, 10, 11, 12, 13, 14, 15, 16, 17, 18, 1, 0] rfl) ?_
    exact tl_L_law_950 X2 hr hlx hH hne hH0 _ _ _ _ _ _ _ _ _ _ _ _ _ _ _ _ _ _ _ _ _ _ hf hK
  · have hf := ife_f hc hf
    refine g_aload X dL_law_910 rfl ?_
    refine g_iload X dL_law_912 rfl ?_
    obtain ⟨a248, ha248, hf⟩ := dr_e hf
    obtain ⟨hT249, hf⟩ := ck_e hf
    obtain ⟨hg250, hf⟩ := ck_e hf
    refine g_iald X dL_law_914 ha248 hT249 hg250 ?_
    refine g_istore (lv' := [(33, vI (mI M a248 x32.toNatClampNeg)), (0, vR (some (Z 400))), (2, vR x2), (3, vR x3), (4, vI x4), (5, vI x5), (6, vI x6), (7, vI x7), (10, vR x10), (11, vR x11), (12, vR x12), (19, vI x19), (20, vI x20), (21, vI x21), (23, vI x23), (24, vR x24), (25, vI x25), (26, vI x26), (30, vR x30), (31, vI x31), (32, vI x32)]) X dL_law_915 (by decide) rfl ?_
    refine g_aload_n X dL_law_917 rfl rfl ?_
    refine g_iload X dL_law_918 rfl ?_
    refine g_iload X dL_law_920 rfl ?_
    obtain ⟨a252, ha252, hf⟩ := dr_e hf
    obtain ⟨hT253, hf⟩ := ck_e hf
    obtain ⟨hg254, hf⟩ := ck_e hf
    rcases bx_e hf with ⟨e251, M251, hq251, hf⟩ | ⟨r251, M251, hq251, hf⟩
    · obtain ⟨w255, hw255, hz255⟩ := oI_e hf
      subst hz255
      have hf := hw255
      obtain ⟨w256, hw256, hz256⟩ := oI_e hf
      subst hz256
      have hf := hw256
      obtain ⟨w257, hw257, hz257⟩ := oI_e hf
      subst hz257
      have hf := hw257
      cases hf
      refine g_eqQ hK ?_
      exact g_callTV (ci := 9) (b := a252) (As := [vI x26, vI (mI M a248 x32.toNatClampNeg)]) (st := []) (M1 := M251) X2 hne (m_X11_fisher l hlx hH0 hq251) (cwV 2 X.2.2.1 gL_law_X11_fisher rfl rfl rfl (by decide +kernel) ⟨Nat.le_of_ble_eq_true rfl, Nat.le_of_ble_eq_true rfl⟩) rfl rfl ha252 hT253 (by decide) rfl (Nat.le_of_ble_eq_true rfl) dL_law_922 ⟨hg254.1, hg254.2⟩ hg254.1 hg254.2
    refine g_callXV (ci := 9) (b := a252) (As := [vI x26, vI (mI M a248 x32.toNatClampNeg)]) (st := []) (v := some (vI r251)) (M1 := M251) X2 (m_X11_fisher l hlx hH0 hq251) (cwV 2 X.2.2.1 gL_law_X11_fisher rfl rfl rfl (by decide +kernel) ⟨Nat.le_of_ble_eq_true rfl, Nat.le_of_ble_eq_true rfl⟩) rfl rfl ha252 hT253 (by decide) rfl (Nat.le_of_ble_eq_true rfl) dL_law_922 ⟨hg254.1, hg254.2⟩ ?_
    refine g_aload X dL_law_925 rfl ?_
    refine g_iload X dL_law_927 rfl ?_
    obtain ⟨a258, ha258, hf⟩ := dr_e hf
    obtain ⟨hT259, hf⟩ := ck_e hf
    obtain ⟨hg260, hf⟩ := ck_e hf
    refine g_aaldA X dL_law_929 ha258 hT259 hg260 ?_
    refine g_iload X dL_law_930 rfl ?_
    obtain ⟨a261, ha261, hf⟩ := dr_e hf
    obtain ⟨hT262, hf⟩ := ck_e hf
    obtain ⟨hg263, hf⟩ := ck_e hf
    refine g_iald X dL_law_932 ha261 hT262 hg263 ?_
    refine g_icmp_eq (tgt := 938) X dL_law_933 (by decide) (fun hc => ?_) (fun hc => ?_)
    · have hf := ife_t hc hf
      refine g_iinc (v := (1 : Int32)) (lv' := [(32, vI (x32 + (1 : Int32))), (33, vI (mI M a248 x32.toNatClampNeg)), (0, vR (some (Z 400))), (2, vR x2), (3, vR x3), (4, vI x4), (5, vI x5), (6, vI x6), (7, vI x7), (10, vR x10), (11, vR x11), (12, vR x12), (19, vI x19), (20, vI x20), (21, vI x21), (23, vI x23), (24, vR x24), (25, vI x25), (26, vI x26), (30, vR x30), (31, vI x31)]) X dL_law_938 rfl (by decide) (by decide) rfl ?_
      refine g_goto (tgt := 903) X dL_law_941 (by decide) ?_
      cases hf
      refine g_sub (lvsub_of _ _ [2, 3, 4, 5, 6, 7, 8, 9, 10, 11, 12, 13, 14, 15, 16, 17, 18, 19, 20, 0] rfl) ?_
      exact hK
    · have hf := ife_f hc hf
      refine g_iconst (v := (0 : Int32)) X dL_law_936 (by decide) ?_
      obtain ⟨hg264, hf⟩ := ck_e hf
      obtain ⟨w265, hw265, hz265⟩ := oI_e hf
      subst hz265
      have hf := hw265
      obtain ⟨w266, hw266, hz266⟩ := oI_e hf
      subst hz266
      have hf := hw266
      obtain ⟨w267, hw267, hz267⟩ := oI_e hf
      subst hz267
      have hf := hw267
      cases hf
      refine g_eqQ hK ?_
      refine g_wide (k' := 600086) (n' := 7301442) hg264.1 hg264.2 ?_
      refine g_xret ?_
      exact g_zret X hr (gnb (Or.inl rfl)) dL_law_937
set_option maxHeartbeats 4000000 in
set_option maxRecDepth 100000 in
theorem tl_L_law_903 (X2 : gX p s m args meth c D cy B (gSt2 Z B H0) RL cL_law wsL_law 34) (hr : meth.sig.returnType = (some .boolean)) (hlx : l.stackTraces = false) (hH : ∀ q : Nat, q < B → s.heap[q]? = H0[q]?) (hne : ∀ x ∈ c.exceptionTable.toList, False) (hH0 : H0.size = B) {Q : State → Prop} : ∀ (M : gMem) (kc : Nat) (kn : Nat) (x2 : Option Nat) (x3 : Option Nat) (x4 : Int32) (x5 : Int32) (x6 : Int32) (x7 : Int32) (x10 : Option Nat) (x11 : Option Nat) (x12 : Option Nat) (x19 : Int32) (x20 : Int32) (x21 : Int32) (x23 : Int32) (x24 : Option Nat) (x25 : Int32) (x26 : Int32) (x30 : Option Nat) (x31 : Int32) (x32 : Int32) (z : (gMem × Nat × Nat × Int32 × Int32) ⊕ ((gMem × Nat × Nat × Int32) ⊕ ((Nat ⊕ Int32) × gMem))), lp_L_law_903 Z M kc kn x2 x3 x4 x5 x6 x7 x10 x11 x12 x19 x20 x21 x23 x24 x25 x26 x30 x31 x32 = some z → (Sum.elim (fun (q : gMem × Nat × Nat × Int32 × Int32) => gGo p l e rL_law s m args below meth c D cy B H0 34 q.2.1 q.2.2.1 Q 680 [(0, vR (some (Z 400))), (2, vR x2), (3, vR x3), (4, vI x4), (5, vI x5), (6, vI x6), (7, vI x7), (10, vR x10), (11, vR x11), (12, vR x12), (19, vI x19), (20, vI x20), (21, vI x21), (23, vI x23), (24, vR x24), (25, vI q.2.2.2.1), (26, vI q.2.2.2.2)] [] q.1) (Sum.elim (fun (q : gMem × Nat × Nat × Int32) => gGo p l e rL_law s m args below meth c D cy B H0 34 q.2.1 q.2.2.1 Q 59 [(0, vR (some (Z 400))), (2, vR x2), (3, vR x3), (4, vI x4), (5, vI x5), (6, vI x6), (7, vI q.2.2.2)] [] q.1) (fun (r : (Nat ⊕ Int32) × gMem) => Q = gMX below D cy B H0 args s 600086 7301442 (gzI r.1) r.2))) z → gGo p l e rL_law s m args below meth c D cy B H0 34 kc kn Q 903 [(0, vR (some (Z 400))), (2, vR x2), (3, vR x3), (4, vI x4), (5, vI x5), (6, vI x6), (7, vI x7), (10, vR x10), (11, vR x11), (12, vR x12), (19, vI x19), (20, vI x20), (21, vI x21), (23, vI x23), (24, vR x24), (25, vI x25), (26, vI x26), (30, vR x30), (31, vI x31), (32, vI x32)] [] M := by
  intro M kc kn x2 x3 x4 x5 x6 x7 x10 x11 x12 x19 x20 x21 x23 x24 x25 x26 x30 x31 x32 z hf hK
  refine lp_ind (P := (fun (q : gMem × Nat × Nat × Int32) (z : (gMem × Nat × Nat × Int32 × Int32) ⊕ ((gMem × Nat × Nat × Int32) ⊕ ((Nat ⊕ Int32) × gMem))) => (Sum.elim (fun (q : gMem × Nat × Nat × Int32 × Int32) => gGo p l e rL_law s m args below meth c D cy B H0 34 q.2.1 q.2.2.1 Q 680 [(0, vR (some (Z 400))), (2, vR x2), (3, vR x3), (4, vI x4), (5, vI x5), (6, vI x6), (7, vI x7), (10, vR x10), (11, vR x11), (12, vR x12), (19, vI x19), (20, vI x20), (21, vI x21), (23, vI x23), (24, vR x24), (25, vI q.2.2.2.1), (26, vI q.2.2.2.2)] [] q.1) (Sum.elim (fun (q : gMem × Nat × Nat × Int32) => gGo p l e rL_law s m args below meth c D cy B H0 34 q.2.1 q.2.2.1 Q 59 [(0, vR (some (Z 400))), (2, vR x2), (3, vR x3), (4, vI x4), (5, vI x5), (6, vI x6), (7, vI q.2.2.2)] [] q.1) (fun (r : (Nat ⊕ Int32) × gMem) => Q = gMX below D cy B H0 args s 600086 7301442 (gzI r.1) r.2))) z → gGo p l e rL_law s m args below meth c D cy B H0 34 q.2.1 q.2.2.1 Q 903 [(0, vR (some (Z 400))), (2, vR x2), (3, vR x3), (4, vI x4), (5, vI x5), (6, vI x6), (7, vI x7), (10, vR x10), (11, vR x11), (12, vR x12), (19, vI x19), (20, vI x20), (21, vI x21), (23, vI x23), (24, vR x24), (25, vI x25), (26, vI x26), (30, vR x30), (31, vI x31), (32, vI q.2.2.2)] [] q.1)) (fun q z hq => ?_) _ _ hf hK
  intro hK
  obtain ⟨w, hw, hm⟩ := hq
  refine tb_L_law_903 X2 hr hlx hH hne hH0 _ _ _ _ _ _ _ _ _ _ _ _ _ _ _ _ _ _ _ _ _ _ w hw ?_
  cases w with
  | inl a => exact hm hK
  | inr b => cases hm; exact hK
set_option maxHeartbeats 4000000 in
set_option maxRecDepth 100000 in
theorem t_L_law_871 (X2 : gX p s m args meth c D cy B (gSt2 Z B H0) RL cL_law wsL_law 34) (hr : meth.sig.returnType = (some .boolean)) (hlx : l.stackTraces = false) (hH : ∀ q : Nat, q < B → s.heap[q]? = H0[q]?) (hne : ∀ x ∈ c.exceptionTable.toList, False) (hH0 : H0.size = B) {Q : State → Prop} : ∀ (M : gMem) (kc : Nat) (kn : Nat) (z : (Nat ⊕ Int32) × gMem), b_L_law_871 Z M kc kn = some z → (fun (r : (Nat ⊕ Int32) × gMem) => Q = gMX below D cy B H0 args s 600086 7301442 (gzI r.1) r.2) z → gGo p l e rL_law s m args below meth c D cy B H0 34 kc kn Q 871 [] [] M := by
  intro M kc kn z hf hK
  unfold b_L_law_871 at hf
  have X := gX_w X2
  refine g_iconst (v := (0 : Int32)) X dL_law_871 (by decide) ?_
  obtain ⟨hg268, hf⟩ := ck_e hf
  cases hf
  refine g_eqQ hK ?_
  refine g_wide (k' := 600086) (n' := 7301442) hg268.1 hg268.2 ?_
  refine g_xret ?_
  exact g_zret X hr (gnb (Or.inl rfl)) dL_law_872
set_option maxHeartbeats 4000000 in
set_option maxRecDepth 100000 in
theorem t_L_law_828 (X2 : gX p s m args meth c D cy B (gSt2 Z B H0) RL cL_law wsL_law 34) (hr : meth.sig.returnType = (some .boolean)) (hlx : l.stackTraces = false) (hH : ∀ q : Nat, q < B → s.heap[q]? = H0[q]?) (hne : ∀ x ∈ c.exceptionTable.toList, False) (hH0 : H0.size = B) {Q : State → Prop} : ∀ (M : gMem) (kc : Nat) (kn : Nat) (x2 : Option Nat) (x3 : Option Nat) (x4 : Int32) (x5 : Int32) (x6 : Int32) (x7 : Int32) (x10 : Option Nat) (x11 : Option Nat) (x12 : Option Nat) (x19 : Int32) (x20 : Int32) (x21 : Int32) (x23 : Int32) (x24 : Option Nat) (x25 : Int32) (x26 : Int32) (x29 : Int32) (z : (gMem × Nat × Nat × Int32 × Int32) ⊕ ((gMem × Nat × Nat × Int32) ⊕ ((Nat ⊕ Int32) × gMem))), b_L_law_828 Z M kc kn x2 x3 x4 x5 x6 x7 x10 x11 x12 x19 x20 x21 x23 x24 x25 x26 x29 = some z → (Sum.elim (fun (q : gMem × Nat × Nat × Int32 × Int32) => gGo p l e rL_law s m args below meth c D cy B H0 34 q.2.1 q.2.2.1 Q 680 [(0, vR (some (Z 400))), (2, vR x2), (3, vR x3), (4, vI x4), (5, vI x5), (6, vI x6), (7, vI x7), (10, vR x10), (11, vR x11), (12, vR x12), (19, vI x19), (20, vI x20), (21, vI x21), (23, vI x23), (24, vR x24), (25, vI q.2.2.2.1), (26, vI q.2.2.2.2)] [] q.1) (Sum.elim (fun (q : gMem × Nat × Nat × Int32) => gGo p l e rL_law s m args below meth c D cy B H0 34 q.2.1 q.2.2.1 Q 59 [(0, vR (some (Z 400))), (2, vR x2), (3, vR x3), (4, vI x4), (5, vI x5), (6, vI x6), (7, vI q.2.2.2)] [] q.1) (fun (r : (Nat ⊕ Int32) × gMem) => Q = gMX below D cy B H0 args s 600086 7301442 (gzI r.1) r.2))) z → gGo p l e rL_law s m args below meth c D cy B H0 34 kc kn Q 828 [(0, vR (some (Z 400))), (2, vR x2), (3, vR x3), (4, vI x4), (5, vI x5), (6, vI x6), (7, vI x7), (10, vR x10), (11, vR x11), (12, vR x12), (19, vI x19), (20, vI x20), (21, vI x21), (23, vI x23), (24, vR x24), (25, vI x25), (26, vI x26), (29, vI x29)] [] M := by
  intro M kc kn x2 x3 x4 x5 x6 x7 x10 x11 x12 x19 x20 x21 x23 x24 x25 x26 x29 z hf hK
  unfold b_L_law_828 at hf
  have X := gX_w X2
  refine g_iload X dL_law_828 rfl ?_
  refine g_if_lt (tgt := 871) X dL_law_830 (by decide) (fun hc => ?_) (fun hc => ?_)
  · have hf := ife_t hc hf
    obtain ⟨w269, hw269, hz269⟩ := oI_e hf
    subst hz269
    have hf := hw269
    obtain ⟨w270, hw270, hz270⟩ := oI_e hf
    subst hz270
    have hf := hw270
    refine g_sub (lvsub_of _ _ [] rfl) ?_
    exact t_L_law_871 X2 hr hlx hH hne hH0 _ _ _ _ hf hK
  · have hf := ife_f hc hf
    refine g_iload X dL_law_833 rfl ?_
    refine g_iconst (v := (1 : Int32)) X dL_law_835 (by decide) ?_
    refine g_icmp_gt (tgt := 871) X dL_law_836 (by decide) (fun hc => ?_) (fun hc => ?_)
    · have hf := ife_t hc hf
      obtain ⟨w271, hw271, hz271⟩ := oI_e hf
      subst hz271
      have hf := hw271
      obtain ⟨w272, hw272, hz272⟩ := oI_e hf
      subst hz272
      have hf := hw272
      refine g_sub (lvsub_of _ _ [] rfl) ?_
      exact t_L_law_871 X2 hr hlx hH hne hH0 _ _ _ _ hf hK
    · have hf := ife_f hc hf
      refine g_aload_n X dL_law_839 rfl rfl ?_
      refine g_iload X dL_law_840 rfl ?_
      refine g_iconst (v := (0 : Int32)) X dL_law_842 (by decide) ?_
      obtain ⟨a274, ha274, hf⟩ := dr_e hf
      obtain ⟨hT275, hf⟩ := ck_e hf
      obtain ⟨hg276, hf⟩ := ck_e hf
      rcases bx_e hf with ⟨e273, M273, hq273, hf⟩ | ⟨r273, M273, hq273, hf⟩
      · obtain ⟨w277, hw277, hz277⟩ := oI_e hf
        subst hz277
        have hf := hw277
        obtain ⟨w278, hw278, hz278⟩ := oI_e hf
        subst hz278
        have hf := hw278
        cases hf
        refine g_eqQ hK ?_
        exact g_callTV (ci := 9) (b := a274) (As := [vI x26, vI (0 : Int32)]) (st := []) (M1 := M273) X2 hne (m_X11_fisher l hlx hH0 hq273) (cwV 2 X.2.2.1 gL_law_X11_fisher rfl rfl rfl (by decide +kernel) ⟨Nat.le_of_ble_eq_true rfl, Nat.le_of_ble_eq_true rfl⟩) rfl rfl ha274 hT275 (by decide) rfl (Nat.le_of_ble_eq_true rfl) dL_law_843 ⟨hg276.1, hg276.2⟩ hg276.1 hg276.2
      refine g_callXV (ci := 9) (b := a274) (As := [vI x26, vI (0 : Int32)]) (st := []) (v := some (vI r273)) (M1 := M273) X2 (m_X11_fisher l hlx hH0 hq273) (cwV 2 X.2.2.1 gL_law_X11_fisher rfl rfl rfl (by decide +kernel) ⟨Nat.le_of_ble_eq_true rfl, Nat.le_of_ble_eq_true rfl⟩) rfl rfl ha274 hT275 (by decide) rfl (Nat.le_of_ble_eq_true rfl) dL_law_843 ⟨hg276.1, hg276.2⟩ ?_
      refine g_aload X dL_law_846 rfl ?_
      refine g_iload X dL_law_848 rfl ?_
      obtain ⟨a279, ha279, hf⟩ := dr_e hf
      obtain ⟨hT280, hf⟩ := ck_e hf
      obtain ⟨hg281, hf⟩ := ck_e hf
      refine g_aaldA X dL_law_850 ha279 hT280 hg281 ?_
      refine g_iconst (v := (0 : Int32)) X dL_law_851 (by decide) ?_
      obtain ⟨a282, ha282, hf⟩ := dr_e hf
      obtain ⟨hT283, hf⟩ := ck_e hf
      obtain ⟨hg284, hf⟩ := ck_e hf
      refine g_iald X dL_law_852 ha282 hT283 hg284 ?_
      refine g_iload X dL_law_853 rfl ?_
      refine g_iadd X dL_law_855 ?_
      refine g_icmp_ne (tgt := 871) X dL_law_856 (by decide) (fun hc => ?_) (fun hc => ?_)
      · have hf := ife_f hc hf
        obtain ⟨w285, hw285, hz285⟩ := oI_e hf
        subst hz285
        have hf := hw285
        obtain ⟨w286, hw286, hz286⟩ := oI_e hf
        subst hz286
        have hf := hw286
        refine g_sub (lvsub_of _ _ [] rfl) ?_
        exact t_L_law_871 X2 hr hlx hH hne hH0 _ _ _ _ hf hK
      · have hf := ife_t hc hf
        refine g_aload_n X dL_law_859 rfl rfl ?_
        refine g_iload X dL_law_860 rfl ?_
        refine g_iconst (v := (0 : Int32)) X dL_law_862 (by decide) ?_
        obtain ⟨hT288, hf⟩ := ck_e hf
        obtain ⟨hg289, hf⟩ := ck_e hf
        rcases bx_e hf with ⟨e287, M287, hq287, hf⟩ | ⟨r287, M287, hq287, hf⟩
        · obtain ⟨w290, hw290, hz290⟩ := oI_e hf
          subst hz290
          have hf := hw290
          obtain ⟨w291, hw291, hz291⟩ := oI_e hf
          subst hz291
          have hf := hw291
          cases hf
          refine g_eqQ hK ?_
          exact g_callTV (ci := 9) (b := a274) (As := [vI x26, vI (0 : Int32)]) (st := []) (M1 := M287) X2 hne (m_X11_fisher l hlx hH0 hq287) (cwV 2 X.2.2.1 gL_law_X11_fisher rfl rfl rfl (by decide +kernel) ⟨Nat.le_of_ble_eq_true rfl, Nat.le_of_ble_eq_true rfl⟩) rfl rfl ha274 hT288 (by decide) rfl (Nat.le_of_ble_eq_true rfl) dL_law_863 ⟨hg289.1, hg289.2⟩ hg289.1 hg289.2
        refine g_callXV (ci := 9) (b := a274) (As := [vI x26, vI (0 : Int32)]) (st := []) (v := some (vI r287)) (M1 := M287) X2 (m_X11_fisher l hlx hH0 hq287) (cwV 2 X.2.2.1 gL_law_X11_fisher rfl rfl rfl (by decide +kernel) ⟨Nat.le_of_ble_eq_true rfl, Nat.le_of_ble_eq_true rfl⟩) rfl rfl ha274 hT288 (by decide) rfl (Nat.le_of_ble_eq_true rfl) dL_law_863 ⟨hg289.1, hg289.2⟩ ?_
        refine g_bipush (v := (6 : Int32)) X dL_law_866 (by decide) ?_
        refine g_icmp_le (tgt := 873) X dL_law_868 (by decide) (fun hc => ?_) (fun hc => ?_)
        · have hf := ife_t hc hf
          refine g_iconst (v := (4 : Int32)) X dL_law_873 (by decide) ?_
          obtain ⟨hg292, hf⟩ := ck_e hf
          refine g_newa (at' := .int) (t0 := 0) X k_L_law_acint (by exact Or.inl ⟨rfl, rfl⟩) (by decide) (by decide) ⟨hg292.1, hg292.2⟩ dL_law_874 ?_
          obtain ⟨M293, hM293, hf⟩ := lw_e hf
          rw [← hM293]
          refine g_dup X dL_law_876 rfl ?_
          refine g_iconst (v := (0 : Int32)) X dL_law_877 (by decide) ?_
          refine g_iconst (v := (1 : Int32)) X dL_law_878 (by decide) ?_
          obtain ⟨hT294, hf⟩ := ck_e hf
          obtain ⟨hg295, hf⟩ := ck_e hf
          refine g_iast X dL_law_879 rfl hT294 hg295 ?_
          obtain ⟨M296, hM296, hf⟩ := lw_e hf
          rw [← hM296]
          have hT297 : mT M296 (mN M287) = 20 := by rw [hM296]; exact hT294
          refine g_dup X dL_law_880 rfl ?_
          refine g_iconst (v := (1 : Int32)) X dL_law_881 (by decide) ?_
          refine g_iconst (v := (2 : Int32)) X dL_law_882 (by decide) ?_
          obtain ⟨hg298, hf⟩ := ck_e hf
          refine g_iast X dL_law_883 rfl hT297 hg298 ?_
          obtain ⟨M299, hM299, hf⟩ := lw_e hf
          rw [← hM299]
          have hT300 : mT M299 (mN M287) = 20 := by rw [hM299]; exact hT297
          refine g_dup X dL_law_884 rfl ?_
          refine g_iconst (v := (2 : Int32)) X dL_law_885 (by decide) ?_
          refine g_iconst (v := (3 : Int32)) X dL_law_886 (by decide) ?_
          obtain ⟨hg301, hf⟩ := ck_e hf
          refine g_iast X dL_law_887 rfl hT300 hg301 ?_
          obtain ⟨M302, hM302, hf⟩ := lw_e hf
          rw [← hM302]
          have hT303 : mT M302 (mN M287) = 20 := by rw [hM302]; exact hT300
          refine g_dup X dL_law_888 rfl ?_
          refine g_iconst (v := (3 : Int32)) X dL_law_889 (by decide) ?_
          refine g_bipush (v := (8 : Int32)) X dL_law_890 (by decide) ?_
          obtain ⟨hg304, hf⟩ := ck_e hf
          refine g_iast X dL_law_892 rfl hT303 hg304 ?_
          obtain ⟨M305, hM305, hf⟩ := lw_e hf
          rw [← hM305]
          have hT306 : mT M305 (mN M287) = 20 := by rw [hM305]; exact hT303
          refine g_astore (lv' := [(30, vR (some (mN M287))), (0, vR (some (Z 400))), (2, vR x2), (3, vR x3), (4, vI x4), (5, vI x5), (6, vI x6), (7, vI x7), (10, vR x10), (11, vR x11), (12, vR x12), (19, vI x19), (20, vI x20), (21, vI x21), (23, vI x23), (24, vR x24), (25, vI x25), (26, vI x26), (29, vI x29)]) X dL_law_893 (by decide) rfl ?_
          refine g_aload X dL_law_895 rfl ?_
          refine g_alen (t0 := 0) X dL_law_897 rfl hT306 (by decide) rfl ?_
          refine g_istore (lv' := [(31, vI (Int32.ofNat (mL M305 (mN M287)))), (30, vR (some (mN M287))), (0, vR (some (Z 400))), (2, vR x2), (3, vR x3), (4, vI x4), (5, vI x5), (6, vI x6), (7, vI x7), (10, vR x10), (11, vR x11), (12, vR x12), (19, vI x19), (20, vI x20), (21, vI x21), (23, vI x23), (24, vR x24), (25, vI x25), (26, vI x26), (29, vI x29)]) X dL_law_898 (by decide) rfl ?_
          refine g_iconst (v := (0 : Int32)) X dL_law_900 (by decide) ?_
          refine g_istore (lv' := [(32, vI (0 : Int32)), (31, vI (Int32.ofNat (mL M305 (mN M287)))), (30, vR (some (mN M287))), (0, vR (some (Z 400))), (2, vR x2), (3, vR x3), (4, vI x4), (5, vI x5), (6, vI x6), (7, vI x7), (10, vR x10), (11, vR x11), (12, vR x12), (19, vI x19), (20, vI x20), (21, vI x21), (23, vI x23), (24, vR x24), (25, vI x25), (26, vI x26), (29, vI x29)]) X dL_law_901 (by decide) rfl ?_
          refine g_sub (lvsub_of _ _ [3, 4, 5, 6, 7, 8, 9, 10, 11, 12, 13, 14, 15, 16, 17, 18, 19, 2, 1, 0] rfl) ?_
          exact tl_L_law_903 X2 hr hlx hH hne hH0 _ _ _ _ _ _ _ _ _ _ _ _ _ _ _ _ _ _ _ _ _ _ _ hf hK
        · have hf := ife_f hc hf
          obtain ⟨w307, hw307, hz307⟩ := oI_e hf
          subst hz307
          have hf := hw307
          obtain ⟨w308, hw308, hz308⟩ := oI_e hf
          subst hz308
          have hf := hw308
          refine g_sub (lvsub_of _ _ [] rfl) ?_
          exact t_L_law_871 X2 hr hlx hH hne hH0 _ _ _ _ hf hK
set_option maxHeartbeats 4000000 in
set_option maxRecDepth 100000 in
theorem t_L_law_761 (X2 : gX p s m args meth c D cy B (gSt2 Z B H0) RL cL_law wsL_law 34) (hr : meth.sig.returnType = (some .boolean)) (hlx : l.stackTraces = false) (hH : ∀ q : Nat, q < B → s.heap[q]? = H0[q]?) (hne : ∀ x ∈ c.exceptionTable.toList, False) (hH0 : H0.size = B) {Q : State → Prop} : ∀ (M : gMem) (kc : Nat) (kn : Nat) (x2 : Option Nat) (x3 : Option Nat) (x4 : Int32) (x5 : Int32) (x6 : Int32) (x7 : Int32) (x10 : Option Nat) (x11 : Option Nat) (x12 : Option Nat) (x19 : Int32) (x20 : Int32) (x21 : Int32) (x23 : Int32) (x24 : Option Nat) (x25 : Int32) (x26 : Int32) (x27 : Int32) (x28 : Int32) (x29 : Int32) (z : (gMem × Nat × Nat × Int32 × Int32) ⊕ ((gMem × Nat × Nat × Int32) ⊕ ((Nat ⊕ Int32) × gMem))), b_L_law_761 Z M kc kn x2 x3 x4 x5 x6 x7 x10 x11 x12 x19 x20 x21 x23 x24 x25 x26 x27 x28 x29 = some z → (Sum.elim (fun (q : gMem × Nat × Nat × Int32 × Int32) => gGo p l e rL_law s m args below meth c D cy B H0 34 q.2.1 q.2.2.1 Q 680 [(0, vR (some (Z 400))), (2, vR x2), (3, vR x3), (4, vI x4), (5, vI x5), (6, vI x6), (7, vI x7), (10, vR x10), (11, vR x11), (12, vR x12), (19, vI x19), (20, vI x20), (21, vI x21), (23, vI x23), (24, vR x24), (25, vI q.2.2.2.1), (26, vI q.2.2.2.2)] [] q.1) (Sum.elim (fun (q : gMem × Nat × Nat × Int32) => gGo p l e rL_law s m args below meth c D cy B H0 34 q.2.1 q.2.2.1 Q 59 [(0, vR (some (Z 400))), (2, vR x2), (3, vR x3), (4, vI x4), (5, vI x5), (6, vI x6), (7, vI q.2.2.2)] [] q.1) (fun (r : (Nat ⊕ Int32) × gMem) => Q = gMX below D cy B H0 args s 600086 7301442 (gzI r.1) r.2))) z → gGo p l e rL_law s m args below meth c D cy B H0 34 kc kn Q 761 [(0, vR (some (Z 400))), (2, vR x2), (3, vR x3), (4, vI x4), (5, vI x5), (6, vI x6), (7, vI x7), (10, vR x10), (11, vR x11), (12, vR x12), (19, vI x19), (20, vI x20), (21, vI x21), (23, vI x23), (24, vR x24), (25, vI x25), (26, vI x26), (27, vI x27), (28, vI x28), (29, vI x29)] [] M := by
  intro M kc kn x2 x3 x4 x5 x6 x7 x10 x11 x12 x19 x20 x21 x23 x24 x25 x26 x27 x28 x29 z hf hK
  unfold b_L_law_761 at hf
  have X := gX_w X2
  refine g_aload_n X dL_law_761 rfl rfl ?_
  refine g_iload X dL_law_762 rfl ?_
  refine g_iconst (v := (4 : Int32)) X dL_law_764 (by decide) ?_
  obtain ⟨a310, ha310, hf⟩ := dr_e hf
  obtain ⟨hT311, hf⟩ := ck_e hf
  obtain ⟨hg312, hf⟩ := ck_e hf
  rcases bx_e hf with ⟨e309, M309, hq309, hf⟩ | ⟨r309, M309, hq309, hf⟩
  · obtain ⟨w313, hw313, hz313⟩ := oI_e hf
    subst hz313
    have hf := hw313
    obtain ⟨w314, hw314, hz314⟩ := oI_e hf
    subst hz314
    have hf := hw314
    cases hf
    refine g_eqQ hK ?_
    exact g_callTV (ci := 9) (b := a310) (As := [vI x26, vI (4 : Int32)]) (st := []) (M1 := M309) X2 hne (m_X11_fisher l hlx hH0 hq309) (cwV 2 X.2.2.1 gL_law_X11_fisher rfl rfl rfl (by decide +kernel) ⟨Nat.le_of_ble_eq_true rfl, Nat.le_of_ble_eq_true rfl⟩) rfl rfl ha310 hT311 (by decide) rfl (Nat.le_of_ble_eq_true rfl) dL_law_765 ⟨hg312.1, hg312.2⟩ hg312.1 hg312.2
  refine g_callXV (ci := 9) (b := a310) (As := [vI x26, vI (4 : Int32)]) (st := []) (v := some (vI r309)) (M1 := M309) X2 (m_X11_fisher l hlx hH0 hq309) (cwV 2 X.2.2.1 gL_law_X11_fisher rfl rfl rfl (by decide +kernel) ⟨Nat.le_of_ble_eq_true rfl, Nat.le_of_ble_eq_true rfl⟩) rfl rfl ha310 hT311 (by decide) rfl (Nat.le_of_ble_eq_true rfl) dL_law_765 ⟨hg312.1, hg312.2⟩ ?_
  refine g_aload X dL_law_768 rfl ?_
  refine g_iload X dL_law_770 rfl ?_
  obtain ⟨a315, ha315, hf⟩ := dr_e hf
  obtain ⟨hT316, hf⟩ := ck_e hf
  obtain ⟨hg317, hf⟩ := ck_e hf
  refine g_aaldA X dL_law_772 ha315 hT316 hg317 ?_
  refine g_iconst (v := (4 : Int32)) X dL_law_773 (by decide) ?_
  obtain ⟨a318, ha318, hf⟩ := dr_e hf
  obtain ⟨hT319, hf⟩ := ck_e hf
  obtain ⟨hg320, hf⟩ := ck_e hf
  refine g_iald X dL_law_774 ha318 hT319 hg320 ?_
  refine g_aload_n X dL_law_775 rfl rfl ?_
  refine g_iload X dL_law_776 rfl ?_
  refine g_iconst (v := (5 : Int32)) X dL_law_778 (by decide) ?_
  obtain ⟨hT322, hf⟩ := ck_e hf
  obtain ⟨hg323, hf⟩ := ck_e hf
  rcases bx_e hf with ⟨e321, M321, hq321, hf⟩ | ⟨r321, M321, hq321, hf⟩
  · obtain ⟨w324, hw324, hz324⟩ := oI_e hf
    subst hz324
    have hf := hw324
    obtain ⟨w325, hw325, hz325⟩ := oI_e hf
    subst hz325
    have hf := hw325
    cases hf
    refine g_eqQ hK ?_
    exact g_callTV (ci := 9) (b := a310) (As := [vI x26, vI (5 : Int32)]) (st := [vI (mI M309 a318 ((4 : Int32)).toNatClampNeg), vI r309]) (M1 := M321) X2 hne (m_X11_fisher l hlx hH0 hq321) (cwV 2 X.2.2.1 gL_law_X11_fisher rfl rfl rfl (by decide +kernel) ⟨Nat.le_of_ble_eq_true rfl, Nat.le_of_ble_eq_true rfl⟩) rfl rfl ha310 hT322 (by decide) rfl (Nat.le_of_ble_eq_true rfl) dL_law_779 ⟨hg323.1, hg323.2⟩ hg323.1 hg323.2
  refine g_callXV (ci := 9) (b := a310) (As := [vI x26, vI (5 : Int32)]) (st := [vI (mI M309 a318 ((4 : Int32)).toNatClampNeg), vI r309]) (v := some (vI r321)) (M1 := M321) X2 (m_X11_fisher l hlx hH0 hq321) (cwV 2 X.2.2.1 gL_law_X11_fisher rfl rfl rfl (by decide +kernel) ⟨Nat.le_of_ble_eq_true rfl, Nat.le_of_ble_eq_true rfl⟩) rfl rfl ha310 hT322 (by decide) rfl (Nat.le_of_ble_eq_true rfl) dL_law_779 ⟨hg323.1, hg323.2⟩ ?_
  refine g_iadd X dL_law_782 ?_
  refine g_icmp_ne (tgt := 871) X dL_law_783 (by decide) (fun hc => ?_) (fun hc => ?_)
  · have hf := ife_f hc hf
    obtain ⟨w326, hw326, hz326⟩ := oI_e hf
    subst hz326
    have hf := hw326
    obtain ⟨w327, hw327, hz327⟩ := oI_e hf
    subst hz327
    have hf := hw327
    refine g_sub (lvsub_of _ _ [] rfl) ?_
    exact t_L_law_871 X2 hr hlx hH hne hH0 _ _ _ _ hf hK
  · have hf := ife_t hc hf
    refine g_aload_n X dL_law_786 rfl rfl ?_
    refine g_iload X dL_law_787 rfl ?_
    refine g_iconst (v := (5 : Int32)) X dL_law_789 (by decide) ?_
    obtain ⟨hT329, hf⟩ := ck_e hf
    obtain ⟨hg330, hf⟩ := ck_e hf
    rcases bx_e hf with ⟨e328, M328, hq328, hf⟩ | ⟨r328, M328, hq328, hf⟩
    · obtain ⟨w331, hw331, hz331⟩ := oI_e hf
      subst hz331
      have hf := hw331
      obtain ⟨w332, hw332, hz332⟩ := oI_e hf
      subst hz332
      have hf := hw332
      cases hf
      refine g_eqQ hK ?_
      exact g_callTV (ci := 9) (b := a310) (As := [vI x26, vI (5 : Int32)]) (st := []) (M1 := M328) X2 hne (m_X11_fisher l hlx hH0 hq328) (cwV 2 X.2.2.1 gL_law_X11_fisher rfl rfl rfl (by decide +kernel) ⟨Nat.le_of_ble_eq_true rfl, Nat.le_of_ble_eq_true rfl⟩) rfl rfl ha310 hT329 (by decide) rfl (Nat.le_of_ble_eq_true rfl) dL_law_790 ⟨hg330.1, hg330.2⟩ hg330.1 hg330.2
    refine g_callXV (ci := 9) (b := a310) (As := [vI x26, vI (5 : Int32)]) (st := []) (v := some (vI r328)) (M1 := M328) X2 (m_X11_fisher l hlx hH0 hq328) (cwV 2 X.2.2.1 gL_law_X11_fisher rfl rfl rfl (by decide +kernel) ⟨Nat.le_of_ble_eq_true rfl, Nat.le_of_ble_eq_true rfl⟩) rfl rfl ha310 hT329 (by decide) rfl (Nat.le_of_ble_eq_true rfl) dL_law_790 ⟨hg330.1, hg330.2⟩ ?_
    refine g_if_lt (tgt := 871) X dL_law_793 (by decide) (fun hc => ?_) (fun hc => ?_)
    · have hf := ife_t hc hf
      obtain ⟨w333, hw333, hz333⟩ := oI_e hf
      subst hz333
      have hf := hw333
      obtain ⟨w334, hw334, hz334⟩ := oI_e hf
      subst hz334
      have hf := hw334
      refine g_sub (lvsub_of _ _ [] rfl) ?_
      exact t_L_law_871 X2 hr hlx hH hne hH0 _ _ _ _ hf hK
    · have hf := ife_f hc hf
      refine g_iload X dL_law_796 rfl ?_
      refine g_if_lt (tgt := 871) X dL_law_798 (by decide) (fun hc => ?_) (fun hc => ?_)
      · have hf := ife_t hc hf
        obtain ⟨w335, hw335, hz335⟩ := oI_e hf
        subst hz335
        have hf := hw335
        obtain ⟨w336, hw336, hz336⟩ := oI_e hf
        subst hz336
        have hf := hw336
        refine g_sub (lvsub_of _ _ [] rfl) ?_
        exact t_L_law_871 X2 hr hlx hH hne hH0 _ _ _ _ hf hK
      · have hf := ife_f hc hf
        refine g_iload X dL_law_801 rfl ?_
        refine g_aload X dL_law_803 rfl ?_
        refine g_iload X dL_law_805 rfl ?_
        obtain ⟨hT337, hf⟩ := ck_e hf
        obtain ⟨hg338, hf⟩ := ck_e hf
        refine g_aaldA X dL_law_807 ha315 hT337 hg338 ?_
        refine g_iconst (v := (3 : Int32)) X dL_law_808 (by decide) ?_
        obtain ⟨a339, ha339, hf⟩ := dr_e hf
        obtain ⟨hT340, hf⟩ := ck_e hf
        obtain ⟨hg341, hf⟩ := ck_e hf
        refine g_iald X dL_law_809 ha339 hT340 hg341 ?_
        refine g_icmp_gt (tgt := 871) X dL_law_810 (by decide) (fun hc => ?_) (fun hc => ?_)
        · have hf := ife_t hc hf
          obtain ⟨w342, hw342, hz342⟩ := oI_e hf
          subst hz342
          have hf := hw342
          obtain ⟨w343, hw343, hz343⟩ := oI_e hf
          subst hz343
          have hf := hw343
          refine g_sub (lvsub_of _ _ [] rfl) ?_
          exact t_L_law_871 X2 hr hlx hH hne hH0 _ _ _ _ hf hK
        · have hf := ife_f hc hf
          refine g_iload X dL_law_813 rfl ?_
          refine g_if_ge (tgt := 828) X dL_law_815 (by decide) (fun hc => ?_) (fun hc => ?_)
          · have hf := ife_t hc hf
            refine g_sub (lvsub_of _ _ [0, 1, 2, 3, 4, 5, 6, 7, 8, 9, 10, 11, 12, 13, 14, 15, 16, 19] rfl) ?_
            exact t_L_law_828 X2 hr hlx hH hne hH0 _ _ _ _ _ _ _ _ _ _ _ _ _ _ _ _ _ _ _ _ _ hf hK
          · have hf := ife_f hc hf
            refine g_iload X dL_law_818 rfl ?_
            refine g_if_gt (tgt := 871) X dL_law_820 (by decide) (fun hc => ?_) (fun hc => ?_)
            · have hf := ife_t hc hf
              obtain ⟨w344, hw344, hz344⟩ := oI_e hf
              subst hz344
              have hf := hw344
              obtain ⟨w345, hw345, hz345⟩ := oI_e hf
              subst hz345
              have hf := hw345
              refine g_sub (lvsub_of _ _ [] rfl) ?_
              exact t_L_law_871 X2 hr hlx hH hne hH0 _ _ _ _ hf hK
            · have hf := ife_f hc hf
              refine g_iload X dL_law_823 rfl ?_
              refine g_if_gt (tgt := 871) X dL_law_825 (by decide) (fun hc => ?_) (fun hc => ?_)
              · have hf := ife_t hc hf
                obtain ⟨w346, hw346, hz346⟩ := oI_e hf
                subst hz346
                have hf := hw346
                obtain ⟨w347, hw347, hz347⟩ := oI_e hf
                subst hz347
                have hf := hw347
                refine g_sub (lvsub_of _ _ [] rfl) ?_
                exact t_L_law_871 X2 hr hlx hH hne hH0 _ _ _ _ hf hK
              · have hf := ife_f hc hf
                refine g_sub (lvsub_of _ _ [0, 1, 2, 3, 4, 5, 6, 7, 8, 9, 10, 11, 12, 13, 14, 15, 16, 19] rfl) ?_
                exact t_L_law_828 X2 hr hlx hH hne hH0 _ _ _ _ _ _ _ _ _ _ _ _ _ _ _ _ _ _ _ _ _ hf hK
set_option maxHeartbeats 4000000 in
set_option maxRecDepth 100000 in
theorem tb_L_law_680 (X2 : gX p s m args meth c D cy B (gSt2 Z B H0) RL cL_law wsL_law 34) (hr : meth.sig.returnType = (some .boolean)) (hlx : l.stackTraces = false) (hH : ∀ q : Nat, q < B → s.heap[q]? = H0[q]?) (hne : ∀ x ∈ c.exceptionTable.toList, False) (hH0 : H0.size = B) {Q : State → Prop} : ∀ (M : gMem) (kc : Nat) (kn : Nat) (x2 : Option Nat) (x3 : Option Nat) (x4 : Int32) (x5 : Int32) (x6 : Int32) (x7 : Int32) (x10 : Option Nat) (x11 : Option Nat) (x12 : Option Nat) (x19 : Int32) (x20 : Int32) (x21 : Int32) (x23 : Int32) (x24 : Option Nat) (x25 : Int32) (x26 : Int32) (z : (gMem × Nat × Nat × Int32 × Int32) ⊕ ((gMem × Nat × Nat × Int32) ⊕ ((Nat ⊕ Int32) × gMem))), bb_L_law_680 Z M kc kn x2 x3 x4 x5 x6 x7 x10 x11 x12 x19 x20 x21 x23 x24 x25 x26 = some z → (Sum.elim (fun (q : gMem × Nat × Nat × Int32 × Int32) => gGo p l e rL_law s m args below meth c D cy B H0 34 q.2.1 q.2.2.1 Q 680 [(0, vR (some (Z 400))), (2, vR x2), (3, vR x3), (4, vI x4), (5, vI x5), (6, vI x6), (7, vI x7), (10, vR x10), (11, vR x11), (12, vR x12), (19, vI x19), (20, vI x20), (21, vI x21), (23, vI x23), (24, vR x24), (25, vI q.2.2.2.1), (26, vI q.2.2.2.2)] [] q.1) (Sum.elim (fun (q : gMem × Nat × Nat × Int32) => gGo p l e rL_law s m args below meth c D cy B H0 34 q.2.1 q.2.2.1 Q 59 [(0, vR (some (Z 400))), (2, vR x2), (3, vR x3), (4, vI x4), (5, vI x5), (6, vI x6), (7, vI q.2.2.2)] [] q.1) (fun (r : (Nat ⊕ Int32) × gMem) => Q = gMX below D cy B H0 args s 600086 7301442 (gzI r.1) r.2))) z → gGo p l e rL_law s m args below meth c D cy B H0 34 kc kn Q 680 [(0, vR (some (Z 400))), (2, vR x2), (3, vR x3), (4, vI x4), (5, vI x5), (6, vI x6), (7, vI x7), (10, vR x10), (11, vR x11), (12, vR x12), (19, vI x19), (20, vI x20), (21, vI x21), (23, vI x23), (24, vR x24), (25, vI x25), (26, vI x26)] [] M := by
  intro M kc kn x2 x3 x4 x5 x6 x7 x10 x11 x12 x19 x20 x21 x23 x24 x25 x26 z hf hK
  unfold bb_L_law_680 at hf
  have X := gX_w X2
  refine g_iload X dL_law_680 rfl ?_
  refine g_iload X dL_law_682 rfl ?_
  refine g_icmp_ge (tgt := 997) X dL_law_684 (by decide) (fun hc => ?_) (fun hc => ?_)
  · have hf := ife_t hc hf
    refine g_iload X dL_law_997 rfl ?_
    refine g_iload X dL_law_999 rfl ?_
    refine g_icmp_eq (tgt := 1006) X dL_law_1001 (by decide) (fun hc => ?_) (fun hc => ?_)
    · have hf := ife_t hc hf
      refine g_iconst (v := (0 : Int32)) X dL_law_1006 (by decide) ?_
      refine g_istore (lv' := [(26, vI (0 : Int32)), (0, vR (some (Z 400))), (2, vR x2), (3, vR x3), (4, vI x4), (5, vI x5), (6, vI x6), (7, vI x7), (10, vR x10), (11, vR x11), (12, vR x12), (19, vI x19), (20, vI x20), (21, vI x21), (23, vI x23), (24, vR x24), (25, vI x25)]) X dL_law_1007 (by decide) rfl ?_
      obtain ⟨w348, hw348, hz348⟩ := oI_e hf
      subst hz348
      have hf := hw348
      refine g_sub (lvsub_of _ _ [1, 2, 3, 4, 5, 6, 7, 8, 9, 10, 11, 12, 13, 14, 15, 0] rfl) ?_
      exact tl_L_law_1009 X2 hr hlx hH hne hH0 _ _ _ _ _ _ _ _ _ _ _ _ _ _ _ _ _ _ _ hf hK
    · have hf := ife_f hc hf
      refine g_iconst (v := (0 : Int32)) X dL_law_1004 (by decide) ?_
      obtain ⟨hg349, hf⟩ := ck_e hf
      obtain ⟨w350, hw350, hz350⟩ := oI_e hf
      subst hz350
      have hf := hw350
      obtain ⟨w351, hw351, hz351⟩ := oI_e hf
      subst hz351
      have hf := hw351
      cases hf
      refine g_eqQ hK ?_
      refine g_wide (k' := 600086) (n' := 7301442) hg349.1 hg349.2 ?_
      refine g_xret ?_
      exact g_zret X hr (gnb (Or.inl rfl)) dL_law_1005
  · have hf := ife_f hc hf
    refine g_aload_n X dL_law_687 rfl rfl ?_
    refine g_iload X dL_law_688 rfl ?_
    refine g_bipush (v := (6 : Int32)) X dL_law_690 (by decide) ?_
    obtain ⟨a353, ha353, hf⟩ := dr_e hf
    obtain ⟨hT354, hf⟩ := ck_e hf
    obtain ⟨hg355, hf⟩ := ck_e hf
    rcases bx_e hf with ⟨e352, M352, hq352, hf⟩ | ⟨r352, M352, hq352, hf⟩
    · obtain ⟨w356, hw356, hz356⟩ := oI_e hf
      subst hz356
      have hf := hw356
      obtain ⟨w357, hw357, hz357⟩ := oI_e hf
      subst hz357
      have hf := hw357
      cases hf
      refine g_eqQ hK ?_
      exact g_callTV (ci := 9) (b := a353) (As := [vI x26, vI (6 : Int32)]) (st := []) (M1 := M352) X2 hne (m_X11_fisher l hlx hH0 hq352) (cwV 2 X.2.2.1 gL_law_X11_fisher rfl rfl rfl (by decide +kernel) ⟨Nat.le_of_ble_eq_true rfl, Nat.le_of_ble_eq_true rfl⟩) rfl rfl ha353 hT354 (by decide) rfl (Nat.le_of_ble_eq_true rfl) dL_law_692 ⟨hg355.1, hg355.2⟩ hg355.1 hg355.2
    refine g_callXV (ci := 9) (b := a353) (As := [vI x26, vI (6 : Int32)]) (st := []) (v := some (vI r352)) (M1 := M352) X2 (m_X11_fisher l hlx hH0 hq352) (cwV 2 X.2.2.1 gL_law_X11_fisher rfl rfl rfl (by decide +kernel) ⟨Nat.le_of_ble_eq_true rfl, Nat.le_of_ble_eq_true rfl⟩) rfl rfl ha353 hT354 (by decide) rfl (Nat.le_of_ble_eq_true rfl) dL_law_692 ⟨hg355.1, hg355.2⟩ ?_
    refine g_istore (lv' := [(27, vI r352), (0, vR (some (Z 400))), (2, vR x2), (3, vR x3), (4, vI x4), (5, vI x5), (6, vI x6), (7, vI x7), (10, vR x10), (11, vR x11), (12, vR x12), (19, vI x19), (20, vI x20), (21, vI x21), (23, vI x23), (24, vR x24), (25, vI x25), (26, vI x26)]) X dL_law_695 (by decide) rfl ?_
    refine g_aload_n X dL_law_697 rfl rfl ?_
    refine g_iload X dL_law_698 rfl ?_
    refine g_bipush (v := (9 : Int32)) X dL_law_700 (by decide) ?_
    obtain ⟨hT359, hf⟩ := ck_e hf
    obtain ⟨hg360, hf⟩ := ck_e hf
    rcases bx_e hf with ⟨e358, M358, hq358, hf⟩ | ⟨r358, M358, hq358, hf⟩
    · obtain ⟨w361, hw361, hz361⟩ := oI_e hf
      subst hz361
      have hf := hw361
      obtain ⟨w362, hw362, hz362⟩ := oI_e hf
      subst hz362
      have hf := hw362
      cases hf
      refine g_eqQ hK ?_
      exact g_callTV (ci := 9) (b := a353) (As := [vI x26, vI (9 : Int32)]) (st := []) (M1 := M358) X2 hne (m_X11_fisher l hlx hH0 hq358) (cwV 2 X.2.2.1 gL_law_X11_fisher rfl rfl rfl (by decide +kernel) ⟨Nat.le_of_ble_eq_true rfl, Nat.le_of_ble_eq_true rfl⟩) rfl rfl ha353 hT359 (by decide) rfl (Nat.le_of_ble_eq_true rfl) dL_law_702 ⟨hg360.1, hg360.2⟩ hg360.1 hg360.2
    refine g_callXV (ci := 9) (b := a353) (As := [vI x26, vI (9 : Int32)]) (st := []) (v := some (vI r358)) (M1 := M358) X2 (m_X11_fisher l hlx hH0 hq358) (cwV 2 X.2.2.1 gL_law_X11_fisher rfl rfl rfl (by decide +kernel) ⟨Nat.le_of_ble_eq_true rfl, Nat.le_of_ble_eq_true rfl⟩) rfl rfl ha353 hT359 (by decide) rfl (Nat.le_of_ble_eq_true rfl) dL_law_702 ⟨hg360.1, hg360.2⟩ ?_
    refine g_aload X dL_law_705 rfl ?_
    refine g_iload X dL_law_707 rfl ?_
    obtain ⟨a363, ha363, hf⟩ := dr_e hf
    obtain ⟨hT364, hf⟩ := ck_e hf
    obtain ⟨hg365, hf⟩ := ck_e hf
    refine g_aaldA X dL_law_709 ha363 hT364 hg365 ?_
    refine g_bipush (v := (9 : Int32)) X dL_law_710 (by decide) ?_
    obtain ⟨a366, ha366, hf⟩ := dr_e hf
    obtain ⟨hT367, hf⟩ := ck_e hf
    obtain ⟨hg368, hf⟩ := ck_e hf
    refine g_iald X dL_law_712 ha366 hT367 hg368 ?_
    refine g_isub X dL_law_713 ?_
    refine g_istore (lv' := [(28, vI (r358 - (mI M358 a366 ((9 : Int32)).toNatClampNeg))), (27, vI r352), (0, vR (some (Z 400))), (2, vR x2), (3, vR x3), (4, vI x4), (5, vI x5), (6, vI x6), (7, vI x7), (10, vR x10), (11, vR x11), (12, vR x12), (19, vI x19), (20, vI x20), (21, vI x21), (23, vI x23), (24, vR x24), (25, vI x25), (26, vI x26)]) X dL_law_714 (by decide) rfl ?_
    refine g_aload_n X dL_law_716 rfl rfl ?_
    refine g_iload X dL_law_717 rfl ?_
    refine g_bipush (v := (7 : Int32)) X dL_law_719 (by decide) ?_
    obtain ⟨hT370, hf⟩ := ck_e hf
    obtain ⟨hg371, hf⟩ := ck_e hf
    rcases bx_e hf with ⟨e369, M369, hq369, hf⟩ | ⟨r369, M369, hq369, hf⟩
    · obtain ⟨w372, hw372, hz372⟩ := oI_e hf
      subst hz372
      have hf := hw372
      obtain ⟨w373, hw373, hz373⟩ := oI_e hf
      subst hz373
      have hf := hw373
      cases hf
      refine g_eqQ hK ?_
      exact g_callTV (ci := 9) (b := a353) (As := [vI x26, vI (7 : Int32)]) (st := []) (M1 := M369) X2 hne (m_X11_fisher l hlx hH0 hq369) (cwV 2 X.2.2.1 gL_law_X11_fisher rfl rfl rfl (by decide +kernel) ⟨Nat.le_of_ble_eq_true rfl, Nat.le_of_ble_eq_true rfl⟩) rfl rfl ha353 hT370 (by decide) rfl (Nat.le_of_ble_eq_true rfl) dL_law_721 ⟨hg371.1, hg371.2⟩ hg371.1 hg371.2
    refine g_callXV (ci := 9) (b := a353) (As := [vI x26, vI (7 : Int32)]) (st := []) (v := some (vI r369)) (M1 := M369) X2 (m_X11_fisher l hlx hH0 hq369) (cwV 2 X.2.2.1 gL_law_X11_fisher rfl rfl rfl (by decide +kernel) ⟨Nat.le_of_ble_eq_true rfl, Nat.le_of_ble_eq_true rfl⟩) rfl rfl ha353 hT370 (by decide) rfl (Nat.le_of_ble_eq_true rfl) dL_law_721 ⟨hg371.1, hg371.2⟩ ?_
    refine g_aload X dL_law_724 rfl ?_
    refine g_iload X dL_law_726 rfl ?_
    obtain ⟨hT374, hf⟩ := ck_e hf
    obtain ⟨hg375, hf⟩ := ck_e hf
    refine g_aaldA X dL_law_728 ha363 hT374 hg375 ?_
    refine g_bipush (v := (7 : Int32)) X dL_law_729 (by decide) ?_
    obtain ⟨a376, ha376, hf⟩ := dr_e hf
    obtain ⟨hT377, hf⟩ := ck_e hf
    obtain ⟨hg378, hf⟩ := ck_e hf
    refine g_iald X dL_law_731 ha376 hT377 hg378 ?_
    refine g_isub X dL_law_732 ?_
    refine g_istore (lv' := [(29, vI (r369 - (mI M369 a376 ((7 : Int32)).toNatClampNeg))), (28, vI (r358 - (mI M358 a366 ((9 : Int32)).toNatClampNeg))), (27, vI r352), (0, vR (some (Z 400))), (2, vR x2), (3, vR x3), (4, vI x4), (5, vI x5), (6, vI x6), (7, vI x7), (10, vR x10), (11, vR x11), (12, vR x12), (19, vI x19), (20, vI x20), (21, vI x21), (23, vI x23), (24, vR x24), (25, vI x25), (26, vI x26)]) X dL_law_733 (by decide) rfl ?_
    refine g_iload X dL_law_735 rfl ?_
    refine g_aload_n X dL_law_737 rfl rfl ?_
    refine g_iload X dL_law_738 rfl ?_
    refine g_iconst (v := (5 : Int32)) X dL_law_740 (by decide) ?_
    obtain ⟨hT380, hf⟩ := ck_e hf
    obtain ⟨hg381, hf⟩ := ck_e hf
    rcases bx_e hf with ⟨e379, M379, hq379, hf⟩ | ⟨r379, M379, hq379, hf⟩
    · obtain ⟨w382, hw382, hz382⟩ := oI_e hf
      subst hz382
      have hf := hw382
      obtain ⟨w383, hw383, hz383⟩ := oI_e hf
      subst hz383
      have hf := hw383
      cases hf
      refine g_eqQ hK ?_
      exact g_callTV (ci := 9) (b := a353) (As := [vI x26, vI (5 : Int32)]) (st := [vI x25]) (M1 := M379) X2 hne (m_X11_fisher l hlx hH0 hq379) (cwV 2 X.2.2.1 gL_law_X11_fisher rfl rfl rfl (by decide +kernel) ⟨Nat.le_of_ble_eq_true rfl, Nat.le_of_ble_eq_true rfl⟩) rfl rfl ha353 hT380 (by decide) rfl (Nat.le_of_ble_eq_true rfl) dL_law_741 ⟨hg381.1, hg381.2⟩ hg381.1 hg381.2
    refine g_callXV (ci := 9) (b := a353) (As := [vI x26, vI (5 : Int32)]) (st := [vI x25]) (v := some (vI r379)) (M1 := M379) X2 (m_X11_fisher l hlx hH0 hq379) (cwV 2 X.2.2.1 gL_law_X11_fisher rfl rfl rfl (by decide +kernel) ⟨Nat.le_of_ble_eq_true rfl, Nat.le_of_ble_eq_true rfl⟩) rfl rfl ha353 hT380 (by decide) rfl (Nat.le_of_ble_eq_true rfl) dL_law_741 ⟨hg381.1, hg381.2⟩ ?_
    refine g_iadd X dL_law_744 ?_
    refine g_istore (lv' := [(25, vI (x25 + r379)), (29, vI (r369 - (mI M369 a376 ((7 : Int32)).toNatClampNeg))), (28, vI (r358 - (mI M358 a366 ((9 : Int32)).toNatClampNeg))), (27, vI r352), (0, vR (some (Z 400))), (2, vR x2), (3, vR x3), (4, vI x4), (5, vI x5), (6, vI x6), (7, vI x7), (10, vR x10), (11, vR x11), (12, vR x12), (19, vI x19), (20, vI x20), (21, vI x21), (23, vI x23), (24, vR x24), (26, vI x26)]) X dL_law_745 (by decide) rfl ?_
    refine g_iload X dL_law_747 rfl ?_
    refine g_if_lt (tgt := 761) X dL_law_749 (by decide) (fun hc => ?_) (fun hc => ?_)
    · have hf := ife_t hc hf
      refine g_sub (lvsub_of _ _ [4, 5, 6, 7, 8, 9, 10, 11, 12, 13, 14, 15, 16, 17, 18, 0, 19, 3, 2, 1] rfl) ?_
      exact t_L_law_761 X2 hr hlx hH hne hH0 _ _ _ _ _ _ _ _ _ _ _ _ _ _ _ _ _ _ _ _ _ _ _ hf hK
    · have hf := ife_f hc hf
      refine g_aload X dL_law_752 rfl ?_
      refine g_iload X dL_law_754 rfl ?_
      refine g_dup2 X dL_law_756 rfl rfl ?_
      obtain ⟨a384, ha384, hf⟩ := dr_e hf
      obtain ⟨hT385, hf⟩ := ck_e hf
      obtain ⟨hg386, hf⟩ := ck_e hf
      refine g_iald X dL_law_757 ha384 hT385 hg386 ?_
      refine g_iconst (v := (1 : Int32)) X dL_law_758 (by decide) ?_
      refine g_iadd X dL_law_759 ?_
      obtain ⟨hg387, hf⟩ := ck_e hf
      refine g_iast X dL_law_760 ha384 hT385 hg387 ?_
      obtain ⟨M388, hM388, hf⟩ := lw_e hf
      rw [← hM388]
      have hT389 : mT M388 a384 = 20 := by rw [hM388]; exact hT385
      refine g_sub (lvsub_of _ _ [4, 5, 6, 7, 8, 9, 10, 11, 12, 13, 14, 15, 16, 17, 18, 0, 19, 3, 2, 1] rfl) ?_
      exact t_L_law_761 X2 hr hlx hH hne hH0 _ _ _ _ _ _ _ _ _ _ _ _ _ _ _ _ _ _ _ _ _ _ _ hf hK
set_option maxHeartbeats 4000000 in
set_option maxRecDepth 100000 in
theorem tl_L_law_680 (X2 : gX p s m args meth c D cy B (gSt2 Z B H0) RL cL_law wsL_law 34) (hr : meth.sig.returnType = (some .boolean)) (hlx : l.stackTraces = false) (hH : ∀ q : Nat, q < B → s.heap[q]? = H0[q]?) (hne : ∀ x ∈ c.exceptionTable.toList, False) (hH0 : H0.size = B) {Q : State → Prop} : ∀ (M : gMem) (kc : Nat) (kn : Nat) (x2 : Option Nat) (x3 : Option Nat) (x4 : Int32) (x5 : Int32) (x6 : Int32) (x7 : Int32) (x10 : Option Nat) (x11 : Option Nat) (x12 : Option Nat) (x19 : Int32) (x20 : Int32) (x21 : Int32) (x23 : Int32) (x24 : Option Nat) (x25 : Int32) (x26 : Int32) (z : (gMem × Nat × Nat × Int32) ⊕ ((Nat ⊕ Int32) × gMem)), lp_L_law_680 Z M kc kn x2 x3 x4 x5 x6 x7 x10 x11 x12 x19 x20 x21 x23 x24 x25 x26 = some z → (Sum.elim (fun (q : gMem × Nat × Nat × Int32) => gGo p l e rL_law s m args below meth c D cy B H0 34 q.2.1 q.2.2.1 Q 59 [(0, vR (some (Z 400))), (2, vR x2), (3, vR x3), (4, vI x4), (5, vI x5), (6, vI x6), (7, vI q.2.2.2)] [] q.1) (fun (r : (Nat ⊕ Int32) × gMem) => Q = gMX below D cy B H0 args s 600086 7301442 (gzI r.1) r.2)) z → gGo p l e rL_law s m args below meth c D cy B H0 34 kc kn Q 680 [(0, vR (some (Z 400))), (2, vR x2), (3, vR x3), (4, vI x4), (5, vI x5), (6, vI x6), (7, vI x7), (10, vR x10), (11, vR x11), (12, vR x12), (19, vI x19), (20, vI x20), (21, vI x21), (23, vI x23), (24, vR x24), (25, vI x25), (26, vI x26)] [] M := by
  intro M kc kn x2 x3 x4 x5 x6 x7 x10 x11 x12 x19 x20 x21 x23 x24 x25 x26 z hf hK
  refine lp_ind (P := (fun (q : gMem × Nat × Nat × Int32 × Int32) (z : (gMem × Nat × Nat × Int32) ⊕ ((Nat ⊕ Int32) × gMem)) => (Sum.elim (fun (q : gMem × Nat × Nat × Int32) => gGo p l e rL_law s m args below meth c D cy B H0 34 q.2.1 q.2.2.1 Q 59 [(0, vR (some (Z 400))), (2, vR x2), (3, vR x3), (4, vI x4), (5, vI x5), (6, vI x6), (7, vI q.2.2.2)] [] q.1) (fun (r : (Nat ⊕ Int32) × gMem) => Q = gMX below D cy B H0 args s 600086 7301442 (gzI r.1) r.2)) z → gGo p l e rL_law s m args below meth c D cy B H0 34 q.2.1 q.2.2.1 Q 680 [(0, vR (some (Z 400))), (2, vR x2), (3, vR x3), (4, vI x4), (5, vI x5), (6, vI x6), (7, vI x7), (10, vR x10), (11, vR x11), (12, vR x12), (19, vI x19), (20, vI x20), (21, vI x21), (23, vI x23), (24, vR x24), (25, vI q.2.2.2.1), (26, vI q.2.2.2.2)] [] q.1)) (fun q z hq => ?_) _ _ hf hK
  intro hK
  obtain ⟨w, hw, hm⟩ := hq
  refine tb_L_law_680 X2 hr hlx hH hne hH0 _ _ _ _ _ _ _ _ _ _ _ _ _ _ _ _ _ _ _ w hw ?_
  cases w with
  | inl a => exact hm hK
  | inr b => cases hm; exact hK
set_option maxHeartbeats 4000000 in
set_option maxRecDepth 100000 in
theorem t_L_law_666 (X2 : gX p s m args meth c D cy B (gSt2 Z B H0) RL cL_law wsL_law 34) (hr : meth.sig.returnType = (some .boolean)) (hlx : l.stackTraces = false) (hH : ∀ q : Nat, q < B → s.heap[q]? = H0[q]?) (hne : ∀ x ∈ c.exceptionTable.toList, False) (hH0 : H0.size = B) {Q : State → Prop} : ∀ (M : gMem) (kc : Nat) (kn : Nat) (z : (Nat ⊕ Int32) × gMem), b_L_law_666 Z M kc kn = some z → (fun (r : (Nat ⊕ Int32) × gMem) => Q = gMX below D cy B H0 args s 600086 7301442 (gzI r.1) r.2) z → gGo p l e rL_law s m args below meth c D cy B H0 34 kc kn Q 666 [] [] M := by
  intro M kc kn z hf hK
  unfold b_L_law_666 at hf
  have X := gX_w X2
  refine g_iconst (v := (0 : Int32)) X dL_law_666 (by decide) ?_
  obtain ⟨hg390, hf⟩ := ck_e hf
  cases hf
  refine g_eqQ hK ?_
  refine g_wide (k' := 600086) (n' := 7301442) hg390.1 hg390.2 ?_
  refine g_xret ?_
  exact g_zret X hr (gnb (Or.inl rfl)) dL_law_667
set_option maxHeartbeats 4000000 in
set_option maxRecDepth 100000 in
theorem t_L_law_590 (X2 : gX p s m args meth c D cy B (gSt2 Z B H0) RL cL_law wsL_law 34) (hr : meth.sig.returnType = (some .boolean)) (hlx : l.stackTraces = false) (hH : ∀ q : Nat, q < B → s.heap[q]? = H0[q]?) (hne : ∀ x ∈ c.exceptionTable.toList, False) (hH0 : H0.size = B) {Q : State → Prop} : ∀ (M : gMem) (kc : Nat) (kn : Nat) (z : (Nat ⊕ Int32) × gMem), b_L_law_590 Z M kc kn = some z → (fun (r : (Nat ⊕ Int32) × gMem) => Q = gMX below D cy B H0 args s 600086 7301442 (gzI r.1) r.2) z → gGo p l e rL_law s m args below meth c D cy B H0 34 kc kn Q 590 [] [] M := by
  intro M kc kn z hf hK
  unfold b_L_law_590 at hf
  have X := gX_w X2
  refine g_iconst (v := (0 : Int32)) X dL_law_590 (by decide) ?_
  obtain ⟨hg391, hf⟩ := ck_e hf
  cases hf
  refine g_eqQ hK ?_
  refine g_wide (k' := 600086) (n' := 7301442) hg391.1 hg391.2 ?_
  refine g_xret ?_
  exact g_zret X hr (gnb (Or.inl rfl)) dL_law_591
set_option maxHeartbeats 4000000 in
set_option maxRecDepth 100000 in
theorem t_L_law_576 (X2 : gX p s m args meth c D cy B (gSt2 Z B H0) RL cL_law wsL_law 34) (hr : meth.sig.returnType = (some .boolean)) (hlx : l.stackTraces = false) (hH : ∀ q : Nat, q < B → s.heap[q]? = H0[q]?) (hne : ∀ x ∈ c.exceptionTable.toList, False) (hH0 : H0.size = B) {Q : State → Prop} : ∀ (M : gMem) (kc : Nat) (kn : Nat) (x2 : Option Nat) (x3 : Option Nat) (x4 : Int32) (x5 : Int32) (x6 : Int32) (x7 : Int32) (x10 : Option Nat) (x11 : Option Nat) (x12 : Option Nat) (x13 : Int32) (x14 : Int32) (x18 : Option Nat) (x19 : Int32) (x20 : Int32) (x21 : Int32) (s0 : Int32) (s1 : Int32) (z : (gMem × Nat × Nat × Int32) ⊕ ((Nat ⊕ Int32) × gMem)), b_L_law_576 Z M kc kn x2 x3 x4 x5 x6 x7 x10 x11 x12 x13 x14 x18 x19 x20 x21 s0 s1 = some z → (Sum.elim (fun (q : gMem × Nat × Nat × Int32) => gGo p l e rL_law s m args below meth c D cy B H0 34 q.2.1 q.2.2.1 Q 59 [(0, vR (some (Z 400))), (2, vR x2), (3, vR x3), (4, vI x4), (5, vI x5), (6, vI x6), (7, vI q.2.2.2)] [] q.1) (fun (r : (Nat ⊕ Int32) × gMem) => Q = gMX below D cy B H0 args s 600086 7301442 (gzI r.1) r.2)) z → gGo p l e rL_law s m args below meth c D cy B H0 34 kc kn Q 576 [(0, vR (some (Z 400))), (2, vR x2), (3, vR x3), (4, vI x4), (5, vI x5), (6, vI x6), (7, vI x7), (10, vR x10), (11, vR x11), (12, vR x12), (13, vI x13), (14, vI x14), (18, vR x18), (19, vI x19), (20, vI x20), (21, vI x21)] [vI s1, vI s0] M := by
  intro M kc kn x2 x3 x4 x5 x6 x7 x10 x11 x12 x13 x14 x18 x19 x20 x21 s0 s1 z hf hK
  unfold b_L_law_576 at hf
  have X := gX_w X2
  refine g_icmp_ne (tgt := 590) X dL_law_576 (by decide) (fun hc => ?_) (fun hc => ?_)
  · have hf := ife_f hc hf
    obtain ⟨w392, hw392, hz392⟩ := oI_e hf
    subst hz392
    have hf := hw392
    refine g_sub (lvsub_of _ _ [] rfl) ?_
    exact t_L_law_590 X2 hr hlx hH hne hH0 _ _ _ _ hf hK
  · have hf := ife_t hc hf
    refine g_aload_n X dL_law_579 rfl rfl ?_
    refine g_iload X dL_law_580 rfl ?_
    obtain ⟨a394, ha394, hf⟩ := dr_e hf
    obtain ⟨hT395, hf⟩ := ck_e hf
    obtain ⟨hg396, hf⟩ := ck_e hf
    rcases bx_e hf with ⟨e393, M393, hq393, hf⟩ | ⟨r393, M393, hq393, hf⟩
    · obtain ⟨w397, hw397, hz397⟩ := oI_e hf
      subst hz397
      have hf := hw397
      cases hf
      refine g_eqQ hK ?_
      exact g_callTV (ci := 9) (b := a394) (As := [vI x19]) (st := []) (M1 := M393) X2 hne (m_X11_blame l hlx hH0 hq393) (cwV 1 X.2.2.1 gL_law_X11_blame rfl rfl rfl (by decide +kernel) ⟨Nat.le_of_ble_eq_true rfl, Nat.le_of_ble_eq_true rfl⟩) rfl rfl ha394 hT395 (by decide) rfl (Nat.le_of_ble_eq_true rfl) dL_law_582 ⟨hg396.1, hg396.2⟩ hg396.1 hg396.2
    refine g_callXV (ci := 9) (b := a394) (As := [vI x19]) (st := []) (v := some (vI r393)) (M1 := M393) X2 (m_X11_blame l hlx hH0 hq393) (cwV 1 X.2.2.1 gL_law_X11_blame rfl rfl rfl (by decide +kernel) ⟨Nat.le_of_ble_eq_true rfl, Nat.le_of_ble_eq_true rfl⟩) rfl rfl ha394 hT395 (by decide) rfl (Nat.le_of_ble_eq_true rfl) dL_law_582 ⟨hg396.1, hg396.2⟩ ?_
    refine g_iload X dL_law_585 rfl ?_
    refine g_icmp_lt (tgt := 592) X dL_law_587 (by decide) (fun hc => ?_) (fun hc => ?_)
    · have hf := ife_t hc hf
      refine g_aload_n X dL_law_592 rfl rfl ?_
      refine g_iconst (v := (1 : Int32)) X dL_law_593 (by decide) ?_
      obtain ⟨hT399, hf⟩ := ck_e hf
      obtain ⟨hg400, hf⟩ := ck_e hf
      rcases bx_e hf with ⟨e398, M398, hq398, hf⟩ | ⟨r398, M398, hq398, hf⟩
      · obtain ⟨w401, hw401, hz401⟩ := oI_e hf
        subst hz401
        have hf := hw401
        cases hf
        refine g_eqQ hK ?_
        exact g_callTV (ci := 9) (b := a394) (As := [vI (1 : Int32)]) (st := []) (M1 := M398) X2 hne (m_X11_pass l hlx hH0 hq398) (cwV 1 X.2.2.1 gL_law_X11_pass rfl rfl rfl (by decide +kernel) ⟨Nat.le_of_ble_eq_true rfl, Nat.le_of_ble_eq_true rfl⟩) rfl rfl ha394 hT399 (by decide) rfl (Nat.le_of_ble_eq_true rfl) dL_law_594 ⟨hg400.1, hg400.2⟩ hg400.1 hg400.2
      refine g_callXV (ci := 9) (b := a394) (As := [vI (1 : Int32)]) (st := []) (v := some (vI r398)) (M1 := M398) X2 (m_X11_pass l hlx hH0 hq398) (cwV 1 X.2.2.1 gL_law_X11_pass rfl rfl rfl (by decide +kernel) ⟨Nat.le_of_ble_eq_true rfl, Nat.le_of_ble_eq_true rfl⟩) rfl rfl ha394 hT399 (by decide) rfl (Nat.le_of_ble_eq_true rfl) dL_law_594 ⟨hg400.1, hg400.2⟩ ?_
      refine g_istore (lv' := [(23, vI r398), (0, vR (some (Z 400))), (2, vR x2), (3, vR x3), (4, vI x4), (5, vI x5), (6, vI x6), (7, vI x7), (10, vR x10), (11, vR x11), (12, vR x12), (13, vI x13), (14, vI x14), (18, vR x18), (19, vI x19), (20, vI x20), (21, vI x21)]) X dL_law_597 (by decide) rfl ?_
      refine g_aload_n X dL_law_599 rfl rfl ?_
      refine g_iconst (v := (0 : Int32)) X dL_law_600 (by decide) ?_
      obtain ⟨hT403, hf⟩ := ck_e hf
      obtain ⟨hg404, hf⟩ := ck_e hf
      rcases bx_e hf with ⟨e402, M402, hq402, hf⟩ | ⟨r402, M402, hq402, hf⟩
      · obtain ⟨w405, hw405, hz405⟩ := oI_e hf
        subst hz405
        have hf := hw405
        cases hf
        refine g_eqQ hK ?_
        exact g_callTV (ci := 9) (b := a394) (As := [vI (0 : Int32)]) (st := []) (M1 := M402) X2 hne (m_X11_count l hlx hH0 hq402) (cwV 1 X.2.2.1 gL_law_X11_count rfl rfl rfl (by decide +kernel) ⟨Nat.le_of_ble_eq_true rfl, Nat.le_of_ble_eq_true rfl⟩) rfl rfl ha394 hT403 (by decide) rfl (Nat.le_of_ble_eq_true rfl) dL_law_601 ⟨hg404.1, hg404.2⟩ hg404.1 hg404.2
      refine g_callXV (ci := 9) (b := a394) (As := [vI (0 : Int32)]) (st := []) (v := some (vI r402)) (M1 := M402) X2 (m_X11_count l hlx hH0 hq402) (cwV 1 X.2.2.1 gL_law_X11_count rfl rfl rfl (by decide +kernel) ⟨Nat.le_of_ble_eq_true rfl, Nat.le_of_ble_eq_true rfl⟩) rfl rfl ha394 hT403 (by decide) rfl (Nat.le_of_ble_eq_true rfl) dL_law_601 ⟨hg404.1, hg404.2⟩ ?_
      refine g_iload X dL_law_604 rfl ?_
      refine g_iconst (v := (1 : Int32)) X dL_law_606 (by decide) ?_
      refine g_iadd X dL_law_607 ?_
      refine g_icmp_ne (tgt := 666) X dL_law_608 (by decide) (fun hc => ?_) (fun hc => ?_)
      · have hf := ife_f hc hf
        obtain ⟨w406, hw406, hz406⟩ := oI_e hf
        subst hz406
        have hf := hw406
        refine g_sub (lvsub_of _ _ [] rfl) ?_
        exact t_L_law_666 X2 hr hlx hH hne hH0 _ _ _ _ hf hK
      · have hf := ife_t hc hf
        refine g_iload X dL_law_611 rfl ?_
        refine g_if_lt (tgt := 666) X dL_law_613 (by decide) (fun hc => ?_) (fun hc => ?_)
        · have hf := ife_t hc hf
          obtain ⟨w407, hw407, hz407⟩ := oI_e hf
          subst hz407
          have hf := hw407
          refine g_sub (lvsub_of _ _ [] rfl) ?_
          exact t_L_law_666 X2 hr hlx hH hne hH0 _ _ _ _ hf hK
        · have hf := ife_f hc hf
          refine g_aload_n X dL_law_616 rfl rfl ?_
          refine g_bipush (v := (6 : Int32)) X dL_law_617 (by decide) ?_
          obtain ⟨hT409, hf⟩ := ck_e hf
          obtain ⟨hg410, hf⟩ := ck_e hf
          rcases bx_e hf with ⟨e408, M408, hq408, hf⟩ | ⟨r408, M408, hq408, hf⟩
          · obtain ⟨w411, hw411, hz411⟩ := oI_e hf
            subst hz411
            have hf := hw411
            cases hf
            refine g_eqQ hK ?_
            exact g_callTV (ci := 9) (b := a394) (As := [vI (6 : Int32)]) (st := []) (M1 := M408) X2 hne (m_X11_count l hlx hH0 hq408) (cwV 1 X.2.2.1 gL_law_X11_count rfl rfl rfl (by decide +kernel) ⟨Nat.le_of_ble_eq_true rfl, Nat.le_of_ble_eq_true rfl⟩) rfl rfl ha394 hT409 (by decide) rfl (Nat.le_of_ble_eq_true rfl) dL_law_619 ⟨hg410.1, hg410.2⟩ hg410.1 hg410.2
          refine g_callXV (ci := 9) (b := a394) (As := [vI (6 : Int32)]) (st := []) (v := some (vI r408)) (M1 := M408) X2 (m_X11_count l hlx hH0 hq408) (cwV 1 X.2.2.1 gL_law_X11_count rfl rfl rfl (by decide +kernel) ⟨Nat.le_of_ble_eq_true rfl, Nat.le_of_ble_eq_true rfl⟩) rfl rfl ha394 hT409 (by decide) rfl (Nat.le_of_ble_eq_true rfl) dL_law_619 ⟨hg410.1, hg410.2⟩ ?_
          refine g_iload X dL_law_622 rfl ?_
          refine g_iload X dL_law_624 rfl ?_
          refine g_iadd X dL_law_626 ?_
          refine g_icmp_ne (tgt := 666) X dL_law_627 (by decide) (fun hc => ?_) (fun hc => ?_)
          · have hf := ife_f hc hf
            obtain ⟨w412, hw412, hz412⟩ := oI_e hf
            subst hz412
            have hf := hw412
            refine g_sub (lvsub_of _ _ [] rfl) ?_
            exact t_L_law_666 X2 hr hlx hH hne hH0 _ _ _ _ hf hK
          · have hf := ife_t hc hf
            refine g_aload_n X dL_law_630 rfl rfl ?_
            refine g_bipush (v := (6 : Int32)) X dL_law_631 (by decide) ?_
            obtain ⟨hT414, hf⟩ := ck_e hf
            obtain ⟨hg415, hf⟩ := ck_e hf
            rcases bx_e hf with ⟨e413, M413, hq413, hf⟩ | ⟨r413, M413, hq413, hf⟩
            · obtain ⟨w416, hw416, hz416⟩ := oI_e hf
              subst hz416
              have hf := hw416
              cases hf
              refine g_eqQ hK ?_
              exact g_callTV (ci := 9) (b := a394) (As := [vI (6 : Int32)]) (st := []) (M1 := M413) X2 hne (m_X11_count l hlx hH0 hq413) (cwV 1 X.2.2.1 gL_law_X11_count rfl rfl rfl (by decide +kernel) ⟨Nat.le_of_ble_eq_true rfl, Nat.le_of_ble_eq_true rfl⟩) rfl rfl ha394 hT414 (by decide) rfl (Nat.le_of_ble_eq_true rfl) dL_law_633 ⟨hg415.1, hg415.2⟩ hg415.1 hg415.2
            refine g_callXV (ci := 9) (b := a394) (As := [vI (6 : Int32)]) (st := []) (v := some (vI r413)) (M1 := M413) X2 (m_X11_count l hlx hH0 hq413) (cwV 1 X.2.2.1 gL_law_X11_count rfl rfl rfl (by decide +kernel) ⟨Nat.le_of_ble_eq_true rfl, Nat.le_of_ble_eq_true rfl⟩) rfl rfl ha394 hT414 (by decide) rfl (Nat.le_of_ble_eq_true rfl) dL_law_633 ⟨hg415.1, hg415.2⟩ ?_
            refine g_aload X dL_law_636 rfl ?_
            refine g_iconst (v := (0 : Int32)) X dL_law_638 (by decide) ?_
            obtain ⟨a417, ha417, hf⟩ := dr_e hf
            obtain ⟨hT418, hf⟩ := ck_e hf
            obtain ⟨hg419, hf⟩ := ck_e hf
            refine g_iald X dL_law_639 ha417 hT418 hg419 ?_
            refine g_icmp_ne (tgt := 666) X dL_law_640 (by decide) (fun hc => ?_) (fun hc => ?_)
            · have hf := ife_f hc hf
              obtain ⟨w420, hw420, hz420⟩ := oI_e hf
              subst hz420
              have hf := hw420
              refine g_sub (lvsub_of _ _ [] rfl) ?_
              exact t_L_law_666 X2 hr hlx hH hne hH0 _ _ _ _ hf hK
            · have hf := ife_t hc hf
              refine g_aload_n X dL_law_643 rfl rfl ?_
              refine g_iconst (v := (5 : Int32)) X dL_law_644 (by decide) ?_
              obtain ⟨hT422, hf⟩ := ck_e hf
              obtain ⟨hg423, hf⟩ := ck_e hf
              rcases bx_e hf with ⟨e421, M421, hq421, hf⟩ | ⟨r421, M421, hq421, hf⟩
              · obtain ⟨w424, hw424, hz424⟩ := oI_e hf
                subst hz424
                have hf := hw424
                cases hf
                refine g_eqQ hK ?_
                exact g_callTV (ci := 9) (b := a394) (As := [vI (5 : Int32)]) (st := []) (M1 := M421) X2 hne (m_X11_count l hlx hH0 hq421) (cwV 1 X.2.2.1 gL_law_X11_count rfl rfl rfl (by decide +kernel) ⟨Nat.le_of_ble_eq_true rfl, Nat.le_of_ble_eq_true rfl⟩) rfl rfl ha394 hT422 (by decide) rfl (Nat.le_of_ble_eq_true rfl) dL_law_645 ⟨hg423.1, hg423.2⟩ hg423.1 hg423.2
              refine g_callXV (ci := 9) (b := a394) (As := [vI (5 : Int32)]) (st := []) (v := some (vI r421)) (M1 := M421) X2 (m_X11_count l hlx hH0 hq421) (cwV 1 X.2.2.1 gL_law_X11_count rfl rfl rfl (by decide +kernel) ⟨Nat.le_of_ble_eq_true rfl, Nat.le_of_ble_eq_true rfl⟩) rfl rfl ha394 hT422 (by decide) rfl (Nat.le_of_ble_eq_true rfl) dL_law_645 ⟨hg423.1, hg423.2⟩ ?_
              refine g_aload X dL_law_648 rfl ?_
              refine g_iconst (v := (1 : Int32)) X dL_law_650 (by decide) ?_
              obtain ⟨hT425, hf⟩ := ck_e hf
              obtain ⟨hg426, hf⟩ := ck_e hf
              refine g_iald X dL_law_651 ha417 hT425 hg426 ?_
              refine g_icmp_ne (tgt := 666) X dL_law_652 (by decide) (fun hc => ?_) (fun hc => ?_)
              · have hf := ife_f hc hf
                obtain ⟨w427, hw427, hz427⟩ := oI_e hf
                subst hz427
                have hf := hw427
                refine g_sub (lvsub_of _ _ [] rfl) ?_
                exact t_L_law_666 X2 hr hlx hH hne hH0 _ _ _ _ hf hK
              · have hf := ife_t hc hf
                refine g_aload_n X dL_law_655 rfl rfl ?_
                obtain ⟨hT429, hf⟩ := ck_e hf
                obtain ⟨hg430, hf⟩ := ck_e hf
                obtain ⟨r428, M428, hq428, hf⟩ := bd_e hf
                refine g_callV (ci := 9) (b := a394) (As := []) (st := []) (v := some (vI r428)) (M1 := M428) X (m_X11_gap l hq428) (cwV 0 X.2.2.1 gL_law_X11_gap rfl rfl rfl (by decide +kernel) ⟨Nat.le_of_ble_eq_true rfl, Nat.le_of_ble_eq_true rfl⟩) rfl rfl ha394 hT429 (by decide) rfl (Nat.le_of_ble_eq_true rfl) dL_law_656 ⟨hg430.1, hg430.2⟩ ?_
                refine g_aload X dL_law_659 rfl ?_
                refine g_iconst (v := (2 : Int32)) X dL_law_661 (by decide) ?_
                obtain ⟨hT431, hf⟩ := ck_e hf
                obtain ⟨hg432, hf⟩ := ck_e hf
                refine g_iald X dL_law_662 ha417 hT431 hg432 ?_
                refine g_icmp_eq (tgt := 668) X dL_law_663 (by decide) (fun hc => ?_) (fun hc => ?_)
                · have hf := ife_t hc hf
                  refine g_iload X dL_law_668 rfl ?_
                  obtain ⟨hg433, hf⟩ := ck_e hf
                  obtain ⟨hg434, hf⟩ := ck_e hf
                  obtain ⟨hg435, hf⟩ := ck_e hf
                  refine g_newa (at' := .int) (t0 := 0) X k_L_law_acint (by exact Or.inl ⟨rfl, rfl⟩) hg433 (by omega) ⟨hg435.1, Nat.le_trans (Nat.add_le_add_left hg434 _) hg435.2⟩ dL_law_670 ?_
                  refine g_wide (k' := ((((((((kc + 1) + 1) + 1) + 1) + 1) + 1) + 0) + 1)) (n' := ((((((((kn + 6) + 6) + 6) + 6) + 6) + 6) + 0) + 8)) (Nat.le_refl _) (Nat.add_le_add_left hg434 _) ?_
                  obtain ⟨M436, hM436, hf⟩ := lw_e hf
                  rw [← hM436]
                  refine g_astore (lv' := [(24, vR (some (mN M428))), (23, vI r398), (0, vR (some (Z 400))), (2, vR x2), (3, vR x3), (4, vI x4), (5, vI x5), (6, vI x6), (7, vI x7), (10, vR x10), (11, vR x11), (12, vR x12), (13, vI x13), (14, vI x14), (18, vR x18), (19, vI x19), (20, vI x20), (21, vI x21)]) X dL_law_672 (by decide) rfl ?_
                  refine g_iconst (v := (0 : Int32)) X dL_law_674 (by decide) ?_
                  refine g_istore (lv' := [(25, vI (0 : Int32)), (24, vR (some (mN M428))), (23, vI r398), (0, vR (some (Z 400))), (2, vR x2), (3, vR x3), (4, vI x4), (5, vI x5), (6, vI x6), (7, vI x7), (10, vR x10), (11, vR x11), (12, vR x12), (13, vI x13), (14, vI x14), (18, vR x18), (19, vI x19), (20, vI x20), (21, vI x21)]) X dL_law_675 (by decide) rfl ?_
                  refine g_iconst (v := (0 : Int32)) X dL_law_677 (by decide) ?_
                  refine g_istore (lv' := [(26, vI (0 : Int32)), (25, vI (0 : Int32)), (24, vR (some (mN M428))), (23, vI r398), (0, vR (some (Z 400))), (2, vR x2), (3, vR x3), (4, vI x4), (5, vI x5), (6, vI x6), (7, vI x7), (10, vR x10), (11, vR x11), (12, vR x12), (13, vI x13), (14, vI x14), (18, vR x18), (19, vI x19), (20, vI x20), (21, vI x21)]) X dL_law_678 (by decide) rfl ?_
                  refine g_sub (lvsub_of _ _ [4, 5, 6, 7, 8, 9, 10, 11, 12, 13, 17, 18, 19, 3, 2, 1, 0] rfl) ?_
                  exact tl_L_law_680 X2 hr hlx hH hne hH0 _ _ _ _ _ _ _ _ _ _ _ _ _ _ _ _ _ _ _ _ hf hK
                · have hf := ife_f hc hf
                  obtain ⟨w437, hw437, hz437⟩ := oI_e hf
                  subst hz437
                  have hf := hw437
                  refine g_sub (lvsub_of _ _ [] rfl) ?_
                  exact t_L_law_666 X2 hr hlx hH hne hH0 _ _ _ _ hf hK
    · have hf := ife_f hc hf
      obtain ⟨w438, hw438, hz438⟩ := oI_e hf
      subst hz438
      have hf := hw438
      refine g_sub (lvsub_of _ _ [] rfl) ?_
      exact t_L_law_590 X2 hr hlx hH hne hH0 _ _ _ _ hf hK
set_option maxHeartbeats 4000000 in
set_option maxRecDepth 100000 in
theorem t_L_law_561 (X2 : gX p s m args meth c D cy B (gSt2 Z B H0) RL cL_law wsL_law 34) (hr : meth.sig.returnType = (some .boolean)) (hlx : l.stackTraces = false) (hH : ∀ q : Nat, q < B → s.heap[q]? = H0[q]?) (hne : ∀ x ∈ c.exceptionTable.toList, False) (hH0 : H0.size = B) {Q : State → Prop} : ∀ (M : gMem) (kc : Nat) (kn : Nat) (x2 : Option Nat) (x3 : Option Nat) (x4 : Int32) (x5 : Int32) (x6 : Int32) (x7 : Int32) (x10 : Option Nat) (x11 : Option Nat) (x12 : Option Nat) (x13 : Int32) (x14 : Int32) (x18 : Option Nat) (x19 : Int32) (x20 : Int32) (x21 : Int32) (s0 : Int32) (z : (gMem × Nat × Nat × Int32) ⊕ ((Nat ⊕ Int32) × gMem)), b_L_law_561 Z M kc kn x2 x3 x4 x5 x6 x7 x10 x11 x12 x13 x14 x18 x19 x20 x21 s0 = some z → (Sum.elim (fun (q : gMem × Nat × Nat × Int32) => gGo p l e rL_law s m args below meth c D cy B H0 34 q.2.1 q.2.2.1 Q 59 [(0, vR (some (Z 400))), (2, vR x2), (3, vR x3), (4, vI x4), (5, vI x5), (6, vI x6), (7, vI q.2.2.2)] [] q.1) (fun (r : (Nat ⊕ Int32) × gMem) => Q = gMX below D cy B H0 args s 600086 7301442 (gzI r.1) r.2)) z → gGo p l e rL_law s m args below meth c D cy B H0 34 kc kn Q 561 [(0, vR (some (Z 400))), (2, vR x2), (3, vR x3), (4, vI x4), (5, vI x5), (6, vI x6), (7, vI x7), (10, vR x10), (11, vR x11), (12, vR x12), (13, vI x13), (14, vI x14), (18, vR x18), (19, vI x19), (20, vI x20), (21, vI x21)] [vI s0] M := by
  intro M kc kn x2 x3 x4 x5 x6 x7 x10 x11 x12 x13 x14 x18 x19 x20 x21 s0 z hf hK
  unfold b_L_law_561 at hf
  have X := gX_w X2
  refine g_aload X dL_law_561 rfl ?_
  refine g_iload X dL_law_563 rfl ?_
  obtain ⟨a439, ha439, hf⟩ := dr_e hf
  obtain ⟨hT440, hf⟩ := ck_e hf
  obtain ⟨hg441, hf⟩ := ck_e hf
  refine g_aaldA X dL_law_565 ha439 hT440 hg441 ?_
  refine g_iconst (v := (0 : Int32)) X dL_law_566 (by decide) ?_
  obtain ⟨a442, ha442, hf⟩ := dr_e hf
  obtain ⟨hT443, hf⟩ := ck_e hf
  obtain ⟨hg444, hf⟩ := ck_e hf
  refine g_iald X dL_law_567 ha442 hT443 hg444 ?_
  refine g_if_ne (tgt := 575) X dL_law_568 (by decide) (fun hc => ?_) (fun hc => ?_)
  · have hf := ife_f hc hf
    refine g_iconst (v := (0 : Int32)) X dL_law_575 (by decide) ?_
    refine g_sub (lvsub_of _ _ [0, 1, 2, 3, 4, 5, 6, 7, 8, 9, 10, 11, 12, 13, 14, 15] rfl) ?_
    exact t_L_law_576 X2 hr hlx hH hne hH0 _ _ _ _ _ _ _ _ _ _ _ _ _ _ _ _ _ _ _ _ _ hf hK
  · have hf := ife_t hc hf
    refine g_iconst (v := (1 : Int32)) X dL_law_571 (by decide) ?_
    refine g_goto (tgt := 576) X dL_law_572 (by decide) ?_
    refine g_sub (lvsub_of _ _ [0, 1, 2, 3, 4, 5, 6, 7, 8, 9, 10, 11, 12, 13, 14, 15] rfl) ?_
    exact t_L_law_576 X2 hr hlx hH hne hH0 _ _ _ _ _ _ _ _ _ _ _ _ _ _ _ _ _ _ _ _ _ hf hK
set_option maxHeartbeats 4000000 in
set_option maxRecDepth 100000 in
theorem t_L_law_425 (X2 : gX p s m args meth c D cy B (gSt2 Z B H0) RL cL_law wsL_law 34) (hr : meth.sig.returnType = (some .boolean)) (hlx : l.stackTraces = false) (hH : ∀ q : Nat, q < B → s.heap[q]? = H0[q]?) (hne : ∀ x ∈ c.exceptionTable.toList, False) (hH0 : H0.size = B) {Q : State → Prop} : ∀ (M : gMem) (kc : Nat) (kn : Nat) (z : (Nat ⊕ Int32) × gMem), b_L_law_425 Z M kc kn = some z → (fun (r : (Nat ⊕ Int32) × gMem) => Q = gMX below D cy B H0 args s 600086 7301442 (gzI r.1) r.2) z → gGo p l e rL_law s m args below meth c D cy B H0 34 kc kn Q 425 [] [] M := by
  intro M kc kn z hf hK
  unfold b_L_law_425 at hf
  have X := gX_w X2
  refine g_iconst (v := (0 : Int32)) X dL_law_425 (by decide) ?_
  obtain ⟨hg445, hf⟩ := ck_e hf
  cases hf
  refine g_eqQ hK ?_
  refine g_wide (k' := 600086) (n' := 7301442) hg445.1 hg445.2 ?_
  refine g_xret ?_
  exact g_zret X hr (gnb (Or.inl rfl)) dL_law_426
set_option maxHeartbeats 4000000 in
set_option maxRecDepth 100000 in
theorem tb_L_law_386 (X2 : gX p s m args meth c D cy B (gSt2 Z B H0) RL cL_law wsL_law 34) (hr : meth.sig.returnType = (some .boolean)) (hlx : l.stackTraces = false) (hH : ∀ q : Nat, q < B → s.heap[q]? = H0[q]?) (hne : ∀ x ∈ c.exceptionTable.toList, False) (hH0 : H0.size = B) {Q : State → Prop} : ∀ (M : gMem) (kc : Nat) (kn : Nat) (x2 : Option Nat) (x3 : Option Nat) (x4 : Int32) (x5 : Int32) (x6 : Int32) (x7 : Int32) (x8 : Int32) (x9 : Int32) (x10 : Option Nat) (x11 : Option Nat) (x12 : Option Nat) (x13 : Int32) (x14 : Int32) (x15 : Option Nat) (x16 : Int32) (z : (gMem × Nat × Nat × Int32) ⊕ ((gMem × Nat × Nat × Int32) ⊕ ((Nat ⊕ Int32) × gMem))), bb_L_law_386 Z M kc kn x2 x3 x4 x5 x6 x7 x8 x9 x10 x11 x12 x13 x14 x15 x16 = some z → (Sum.elim (fun (q : gMem × Nat × Nat × Int32) => gGo p l e rL_law s m args below meth c D cy B H0 34 q.2.1 q.2.2.1 Q 386 [(0, vR (some (Z 400))), (2, vR x2), (3, vR x3), (4, vI x4), (5, vI x5), (6, vI x6), (7, vI x7), (8, vI x8), (9, vI x9), (10, vR x10), (11, vR x11), (12, vR x12), (13, vI x13), (14, vI x14), (15, vR x15), (16, vI q.2.2.2)] [] q.1) (Sum.elim (fun (q : gMem × Nat × Nat × Int32) => gGo p l e rL_law s m args below meth c D cy B H0 34 q.2.1 q.2.2.1 Q 59 [(0, vR (some (Z 400))), (2, vR x2), (3, vR x3), (4, vI x4), (5, vI x5), (6, vI x6), (7, vI q.2.2.2)] [] q.1) (fun (r : (Nat ⊕ Int32) × gMem) => Q = gMX below D cy B H0 args s 600086 7301442 (gzI r.1) r.2))) z → gGo p l e rL_law s m args below meth c D cy B H0 34 kc kn Q 386 [(0, vR (some (Z 400))), (2, vR x2), (3, vR x3), (4, vI x4), (5, vI x5), (6, vI x6), (7, vI x7), (8, vI x8), (9, vI x9), (10, vR x10), (11, vR x11), (12, vR x12), (13, vI x13), (14, vI x14), (15, vR x15), (16, vI x16)] [] M := by
  intro M kc kn x2 x3 x4 x5 x6 x7 x8 x9 x10 x11 x12 x13 x14 x15 x16 z hf hK
  unfold bb_L_law_386 at hf
  have X := gX_w X2
  refine g_iload X dL_law_386 rfl ?_
  refine g_iload X dL_law_388 rfl ?_
  refine g_icmp_ge (tgt := 443) X dL_law_390 (by decide) (fun hc => ?_) (fun hc => ?_)
  · have hf := ife_t hc hf
    refine g_aload_n X dL_law_443 rfl rfl ?_
    obtain ⟨a447, ha447, hf⟩ := dr_e hf
    obtain ⟨hT448, hf⟩ := ck_e hf
    obtain ⟨hg449, hf⟩ := ck_e hf
    obtain ⟨r446, M446, hq446, hf⟩ := bd_e hf
    refine g_callV (ci := 9) (b := a447) (As := []) (st := []) (v := some (vJ r446)) (M1 := M446) X (m_X11_digest l hq446) (cwV 0 X.2.2.1 gL_law_X11_digest rfl rfl rfl (by decide +kernel) ⟨Nat.le_of_ble_eq_true rfl, Nat.le_of_ble_eq_true rfl⟩) rfl rfl ha447 hT448 (by decide) rfl (Nat.le_of_ble_eq_true rfl) dL_law_444 ⟨hg449.1, hg449.2⟩ ?_
    refine g_lstore (lv' := [(16, vJ r446), (0, vR (some (Z 400))), (2, vR x2), (3, vR x3), (4, vI x4), (5, vI x5), (6, vI x6), (7, vI x7), (8, vI x8), (9, vI x9), (10, vR x10), (11, vR x11), (12, vR x12), (13, vI x13), (14, vI x14), (15, vR x15)]) X dL_law_447 (by decide) rfl ?_
    refine g_iconst (v := (3 : Int32)) X dL_law_449 (by decide) ?_
    obtain ⟨hg450, hf⟩ := ck_e hf
    refine g_newa (at' := .int) (t0 := 0) X k_L_law_acint (by exact Or.inl ⟨rfl, rfl⟩) (by decide) (by decide) ⟨hg450.1, hg450.2⟩ dL_law_450 ?_
    obtain ⟨M451, hM451, hf⟩ := lw_e hf
    rw [← hM451]
    refine g_dup X dL_law_452 rfl ?_
    refine g_iconst (v := (0 : Int32)) X dL_law_453 (by decide) ?_
    refine g_aload_n X dL_law_454 rfl rfl ?_
    refine g_iconst (v := (1 : Int32)) X dL_law_455 (by decide) ?_
    refine g_iconst (v := (0 : Int32)) X dL_law_456 (by decide) ?_
    obtain ⟨hT453, hf⟩ := ck_e hf
    obtain ⟨hg454, hf⟩ := ck_e hf
    rcases bx_e hf with ⟨e452, M452, hq452, hf⟩ | ⟨r452, M452, hq452, hf⟩
    · obtain ⟨w455, hw455, hz455⟩ := oI_e hf
      subst hz455
      have hf := hw455
      obtain ⟨w456, hw456, hz456⟩ := oI_e hf
      subst hz456
      have hf := hw456
      cases hf
      refine g_eqQ hK ?_
      exact g_callTV (ci := 9) (b := a447) (As := [vI (1 : Int32), vI (0 : Int32)]) (st := [vI (0 : Int32), vR (some (mN M446)), vR (some (mN M446))]) (M1 := M452) X2 hne (m_X11_foresee l hlx hH0 hq452) (cwV 2 X.2.2.1 gL_law_X11_foresee rfl rfl rfl (by decide +kernel) ⟨Nat.le_of_ble_eq_true rfl, Nat.le_of_ble_eq_true rfl⟩) rfl rfl ha447 hT453 (by decide) rfl (Nat.le_of_ble_eq_true rfl) dL_law_457 ⟨hg454.1, hg454.2⟩ hg454.1 hg454.2
    refine g_callXV (ci := 9) (b := a447) (As := [vI (1 : Int32), vI (0 : Int32)]) (st := [vI (0 : Int32), vR (some (mN M446)), vR (some (mN M446))]) (v := some (vI r452)) (M1 := M452) X2 (m_X11_foresee l hlx hH0 hq452) (cwV 2 X.2.2.1 gL_law_X11_foresee rfl rfl rfl (by decide +kernel) ⟨Nat.le_of_ble_eq_true rfl, Nat.le_of_ble_eq_true rfl⟩) rfl rfl ha447 hT453 (by decide) rfl (Nat.le_of_ble_eq_true rfl) dL_law_457 ⟨hg454.1, hg454.2⟩ ?_
    obtain ⟨hT457, hf⟩ := ck_e hf
    obtain ⟨hg458, hf⟩ := ck_e hf
    refine g_iast X dL_law_460 rfl hT457 hg458 ?_
    obtain ⟨M459, hM459, hf⟩ := lw_e hf
    rw [← hM459]
    have hT460 : mT M459 (mN M446) = 20 := by rw [hM459]; exact hT457
    refine g_dup X dL_law_461 rfl ?_
    refine g_iconst (v := (1 : Int32)) X dL_law_462 (by decide) ?_
    refine g_aload_n X dL_law_463 rfl rfl ?_
    refine g_iconst (v := (1 : Int32)) X dL_law_464 (by decide) ?_
    refine g_iconst (v := (1 : Int32)) X dL_law_465 (by decide) ?_
    obtain ⟨hT462, hf⟩ := ck_e hf
    obtain ⟨hg463, hf⟩ := ck_e hf
    rcases bx_e hf with ⟨e461, M461, hq461, hf⟩ | ⟨r461, M461, hq461, hf⟩
    · obtain ⟨w464, hw464, hz464⟩ := oI_e hf
      subst hz464
      have hf := hw464
      obtain ⟨w465, hw465, hz465⟩ := oI_e hf
      subst hz465
      have hf := hw465
      cases hf
      refine g_eqQ hK ?_
      exact g_callTV (ci := 9) (b := a447) (As := [vI (1 : Int32), vI (1 : Int32)]) (st := [vI (1 : Int32), vR (some (mN M446)), vR (some (mN M446))]) (M1 := M461) X2 hne (m_X11_foresee l hlx hH0 hq461) (cwV 2 X.2.2.1 gL_law_X11_foresee rfl rfl rfl (by decide +kernel) ⟨Nat.le_of_ble_eq_true rfl, Nat.le_of_ble_eq_true rfl⟩) rfl rfl ha447 hT462 (by decide) rfl (Nat.le_of_ble_eq_true rfl) dL_law_466 ⟨hg463.1, hg463.2⟩ hg463.1 hg463.2
    refine g_callXV (ci := 9) (b := a447) (As := [vI (1 : Int32), vI (1 : Int32)]) (st := [vI (1 : Int32), vR (some (mN M446)), vR (some (mN M446))]) (v := some (vI r461)) (M1 := M461) X2 (m_X11_foresee l hlx hH0 hq461) (cwV 2 X.2.2.1 gL_law_X11_foresee rfl rfl rfl (by decide +kernel) ⟨Nat.le_of_ble_eq_true rfl, Nat.le_of_ble_eq_true rfl⟩) rfl rfl ha447 hT462 (by decide) rfl (Nat.le_of_ble_eq_true rfl) dL_law_466 ⟨hg463.1, hg463.2⟩ ?_
    obtain ⟨hT466, hf⟩ := ck_e hf
    obtain ⟨hg467, hf⟩ := ck_e hf
    refine g_iast X dL_law_469 rfl hT466 hg467 ?_
    obtain ⟨M468, hM468, hf⟩ := lw_e hf
    rw [← hM468]
    have hT469 : mT M468 (mN M446) = 20 := by rw [hM468]; exact hT466
    refine g_dup X dL_law_470 rfl ?_
    refine g_iconst (v := (2 : Int32)) X dL_law_471 (by decide) ?_
    refine g_aload_n X dL_law_472 rfl rfl ?_
    refine g_iconst (v := (1 : Int32)) X dL_law_473 (by decide) ?_
    refine g_iconst (v := (2 : Int32)) X dL_law_474 (by decide) ?_
    obtain ⟨hT471, hf⟩ := ck_e hf
    obtain ⟨hg472, hf⟩ := ck_e hf
    rcases bx_e hf with ⟨e470, M470, hq470, hf⟩ | ⟨r470, M470, hq470, hf⟩
    · obtain ⟨w473, hw473, hz473⟩ := oI_e hf
      subst hz473
      have hf := hw473
      obtain ⟨w474, hw474, hz474⟩ := oI_e hf
      subst hz474
      have hf := hw474
      cases hf
      refine g_eqQ hK ?_
      exact g_callTV (ci := 9) (b := a447) (As := [vI (1 : Int32), vI (2 : Int32)]) (st := [vI (2 : Int32), vR (some (mN M446)), vR (some (mN M446))]) (M1 := M470) X2 hne (m_X11_foresee l hlx hH0 hq470) (cwV 2 X.2.2.1 gL_law_X11_foresee rfl rfl rfl (by decide +kernel) ⟨Nat.le_of_ble_eq_true rfl, Nat.le_of_ble_eq_true rfl⟩) rfl rfl ha447 hT471 (by decide) rfl (Nat.le_of_ble_eq_true rfl) dL_law_475 ⟨hg472.1, hg472.2⟩ hg472.1 hg472.2
    refine g_callXV (ci := 9) (b := a447) (As := [vI (1 : Int32), vI (2 : Int32)]) (st := [vI (2 : Int32), vR (some (mN M446)), vR (some (mN M446))]) (v := some (vI r470)) (M1 := M470) X2 (m_X11_foresee l hlx hH0 hq470) (cwV 2 X.2.2.1 gL_law_X11_foresee rfl rfl rfl (by decide +kernel) ⟨Nat.le_of_ble_eq_true rfl, Nat.le_of_ble_eq_true rfl⟩) rfl rfl ha447 hT471 (by decide) rfl (Nat.le_of_ble_eq_true rfl) dL_law_475 ⟨hg472.1, hg472.2⟩ ?_
    obtain ⟨hT475, hf⟩ := ck_e hf
    obtain ⟨hg476, hf⟩ := ck_e hf
    refine g_iast X dL_law_478 rfl hT475 hg476 ?_
    obtain ⟨M477, hM477, hf⟩ := lw_e hf
    rw [← hM477]
    have hT478 : mT M477 (mN M446) = 20 := by rw [hM477]; exact hT475
    refine g_astore (lv' := [(18, vR (some (mN M446))), (16, vJ r446), (0, vR (some (Z 400))), (2, vR x2), (3, vR x3), (4, vI x4), (5, vI x5), (6, vI x6), (7, vI x7), (8, vI x8), (9, vI x9), (10, vR x10), (11, vR x11), (12, vR x12), (13, vI x13), (14, vI x14), (15, vR x15)]) X dL_law_479 (by decide) rfl ?_
    refine g_iload X dL_law_481 rfl ?_
    refine g_iconst (v := (4 : Int32)) X dL_law_483 (by decide) ?_
    refine g_ishr X dL_law_484 ?_
    refine g_iload X dL_law_485 rfl ?_
    obtain ⟨hg480, hf⟩ := ck_e hf
    obtain ⟨r479, M479, hq479, hf⟩ := bd_e hf
    refine g_callS (As := [vI (x8 >>> ((4 : Int32) &&& 31)), vI x5]) (st := []) (v := some (vI r479)) (M1 := M479) X (m_L_below l hq479) (va_cwS 2 X.2.2.1 gL_law_L_below rfl rfl rfl (by decide +kernel) ⟨Nat.le_of_ble_eq_true rfl, Nat.le_of_ble_eq_true rfl⟩) rfl rfl (Nat.le_of_ble_eq_true rfl) dL_law_487 ⟨hg480.1, hg480.2⟩ ?_
    refine g_istore (lv' := [(19, vI r479), (18, vR (some (mN M446))), (16, vJ r446), (0, vR (some (Z 400))), (2, vR x2), (3, vR x3), (4, vI x4), (5, vI x5), (6, vI x6), (7, vI x7), (8, vI x8), (9, vI x9), (10, vR x10), (11, vR x11), (12, vR x12), (13, vI x13), (14, vI x14), (15, vR x15)]) X dL_law_490 (by decide) rfl ?_
    refine g_aload_n X dL_law_492 rfl rfl ?_
    refine g_iload X dL_law_493 rfl ?_
    obtain ⟨hT482, hf⟩ := ck_e hf
    obtain ⟨hg483, hf⟩ := ck_e hf
    rcases bx_e hf with ⟨e481, M481, hq481, hf⟩ | ⟨r481, M481, hq481, hf⟩
    · obtain ⟨w484, hw484, hz484⟩ := oI_e hf
      subst hz484
      have hf := hw484
      obtain ⟨w485, hw485, hz485⟩ := oI_e hf
      subst hz485
      have hf := hw485
      cases hf
      refine g_eqQ hK ?_
      exact g_callTV (ci := 9) (b := a447) (As := [vI r479]) (st := []) (M1 := M481) X2 hne (m_X11_empty l hlx hH0 hq481) (cwV 1 X.2.2.1 gL_law_X11_empty rfl rfl rfl (by decide +kernel) ⟨Nat.le_of_ble_eq_true rfl, Nat.le_of_ble_eq_true rfl⟩) rfl rfl ha447 hT482 (by decide) rfl (Nat.le_of_ble_eq_true rfl) dL_law_495 ⟨hg483.1, hg483.2⟩ hg483.1 hg483.2
    refine g_callXV (ci := 9) (b := a447) (As := [vI r479]) (st := []) (v := some (vI r481)) (M1 := M481) X2 (m_X11_empty l hlx hH0 hq481) (cwV 1 X.2.2.1 gL_law_X11_empty rfl rfl rfl (by decide +kernel) ⟨Nat.le_of_ble_eq_true rfl, Nat.le_of_ble_eq_true rfl⟩) rfl rfl ha447 hT482 (by decide) rfl (Nat.le_of_ble_eq_true rfl) dL_law_495 ⟨hg483.1, hg483.2⟩ ?_
    refine g_istore (lv' := [(20, vI r481), (19, vI r479), (18, vR (some (mN M446))), (16, vJ r446), (0, vR (some (Z 400))), (2, vR x2), (3, vR x3), (4, vI x4), (5, vI x5), (6, vI x6), (7, vI x7), (8, vI x8), (9, vI x9), (10, vR x10), (11, vR x11), (12, vR x12), (13, vI x13), (14, vI x14), (15, vR x15)]) X dL_law_498 (by decide) rfl ?_
    refine g_aload_n X dL_law_500 rfl rfl ?_
    refine g_iload X dL_law_501 rfl ?_
    refine g_iconst (v := (1 : Int32)) X dL_law_503 (by decide) ?_
    obtain ⟨hT487, hf⟩ := ck_e hf
    obtain ⟨hg488, hf⟩ := ck_e hf
    rcases bx_e hf with ⟨e486, M486, hq486, hf⟩ | ⟨r486, M486, hq486, hf⟩
    · obtain ⟨w489, hw489, hz489⟩ := oI_e hf
      subst hz489
      have hf := hw489
      obtain ⟨w490, hw490, hz490⟩ := oI_e hf
      subst hz490
      have hf := hw490
      cases hf
      refine g_eqQ hK ?_
      exact g_callTV (ci := 9) (b := a447) (As := [vI x9, vI (1 : Int32)]) (st := []) (M1 := M486) X2 hne (m_X11_pays l hlx hH0 hq486) (cwV 2 X.2.2.1 gL_law_X11_pays rfl rfl rfl (by decide +kernel) ⟨Nat.le_of_ble_eq_true rfl, Nat.le_of_ble_eq_true rfl⟩) rfl rfl ha447 hT487 (by decide) rfl (Nat.le_of_ble_eq_true rfl) dL_law_504 ⟨hg488.1, hg488.2⟩ hg488.1 hg488.2
    refine g_callXV (ci := 9) (b := a447) (As := [vI x9, vI (1 : Int32)]) (st := []) (v := some (vI r486)) (M1 := M486) X2 (m_X11_pays l hlx hH0 hq486) (cwV 2 X.2.2.1 gL_law_X11_pays rfl rfl rfl (by decide +kernel) ⟨Nat.le_of_ble_eq_true rfl, Nat.le_of_ble_eq_true rfl⟩) rfl rfl ha447 hT487 (by decide) rfl (Nat.le_of_ble_eq_true rfl) dL_law_504 ⟨hg488.1, hg488.2⟩ ?_
    refine g_istore (lv' := [(21, vI r486), (20, vI r481), (19, vI r479), (18, vR (some (mN M446))), (16, vJ r446), (0, vR (some (Z 400))), (2, vR x2), (3, vR x3), (4, vI x4), (5, vI x5), (6, vI x6), (7, vI x7), (8, vI x8), (9, vI x9), (10, vR x10), (11, vR x11), (12, vR x12), (13, vI x13), (14, vI x14), (15, vR x15)]) X dL_law_507 (by decide) rfl ?_
    refine g_aload_n X dL_law_509 rfl rfl ?_
    refine g_iload X dL_law_510 rfl ?_
    refine g_iconst (v := (1 : Int32)) X dL_law_512 (by decide) ?_
    refine g_iload X dL_law_513 rfl ?_
    refine g_bipush (v := (6 : Int32)) X dL_law_515 (by decide) ?_
    refine g_ishr X dL_law_517 ?_
    refine g_bipush (v := (10 : Int32)) X dL_law_518 (by decide) ?_
    obtain ⟨hg492, hf⟩ := ck_e hf
    obtain ⟨r491, M491, hq491, hf⟩ := bd_e hf
    refine g_callS (As := [vI (x8 >>> ((6 : Int32) &&& 31)), vI (10 : Int32)]) (st := [vI (1 : Int32), vI x9, vR x3]) (v := some (vI r491)) (M1 := M491) X (m_L_below l hq491) (va_cwS 2 X.2.2.1 gL_law_L_below rfl rfl rfl (by decide +kernel) ⟨Nat.le_of_ble_eq_true rfl, Nat.le_of_ble_eq_true rfl⟩) rfl rfl (Nat.le_of_ble_eq_true rfl) dL_law_520 ⟨hg492.1, hg492.2⟩ ?_
    refine g_iadd X dL_law_523 ?_
    obtain ⟨hT494, hf⟩ := ck_e hf
    obtain ⟨hg495, hf⟩ := ck_e hf
    rcases bx_e hf with ⟨e493, M493, hq493, hf⟩ | ⟨r493, M493, hq493, hf⟩
    · obtain ⟨w496, hw496, hz496⟩ := oI_e hf
      subst hz496
      have hf := hw496
      obtain ⟨w497, hw497, hz497⟩ := oI_e hf
      subst hz497
      have hf := hw497
      cases hf
      refine g_eqQ hK ?_
      exact g_callTV (ci := 9) (b := a447) (As := [vI x9, vI ((1 : Int32) + r491)]) (st := []) (M1 := M493) X2 hne (m_X11_advise l hlx hH0 hq493) (cwV 2 X.2.2.1 gL_law_X11_advise rfl rfl rfl (by decide +kernel) ⟨Nat.le_of_ble_eq_true rfl, Nat.le_of_ble_eq_true rfl⟩) rfl rfl ha447 hT494 (by decide) rfl (Nat.le_of_ble_eq_true rfl) dL_law_524 ⟨hg495.1, hg495.2⟩ hg495.1 hg495.2
    refine g_callXV (ci := 9) (b := a447) (As := [vI x9, vI ((1 : Int32) + r491)]) (st := []) (v := some (vI r493)) (M1 := M493) X2 (m_X11_advise l hlx hH0 hq493) (cwV 2 X.2.2.1 gL_law_X11_advise rfl rfl rfl (by decide +kernel) ⟨Nat.le_of_ble_eq_true rfl, Nat.le_of_ble_eq_true rfl⟩) rfl rfl ha447 hT494 (by decide) rfl (Nat.le_of_ble_eq_true rfl) dL_law_524 ⟨hg495.1, hg495.2⟩ ?_
    refine g_istore (lv' := [(22, vI r493), (21, vI r486), (20, vI r481), (19, vI r479), (18, vR (some (mN M446))), (16, vJ r446), (0, vR (some (Z 400))), (2, vR x2), (3, vR x3), (4, vI x4), (5, vI x5), (6, vI x6), (7, vI x7), (8, vI x8), (9, vI x9), (10, vR x10), (11, vR x11), (12, vR x12), (13, vI x13), (14, vI x14), (15, vR x15)]) X dL_law_527 (by decide) rfl ?_
    refine g_aload_n X dL_law_529 rfl rfl ?_
    obtain ⟨hT499, hf⟩ := ck_e hf
    obtain ⟨hg500, hf⟩ := ck_e hf
    obtain ⟨r498, M498, hq498, hf⟩ := bd_e hf
    refine g_callV (ci := 9) (b := a447) (As := []) (st := []) (v := some (vJ r498)) (M1 := M498) X (m_X11_digest l hq498) (cwV 0 X.2.2.1 gL_law_X11_digest rfl rfl rfl (by decide +kernel) ⟨Nat.le_of_ble_eq_true rfl, Nat.le_of_ble_eq_true rfl⟩) rfl rfl ha447 hT499 (by decide) rfl (Nat.le_of_ble_eq_true rfl) dL_law_530 ⟨hg500.1, hg500.2⟩ ?_
    refine g_lload X dL_law_533 rfl ?_
    refine g_lcmp X dL_law_535 ?_
    refine g_if_ne (tgt := 590) X dL_law_536 (by decide) (fun hc => ?_) (fun hc => ?_)
    · have hf := ife_f hc hf
      obtain ⟨w501, hw501, hz501⟩ := oI_e hf
      subst hz501
      have hf := hw501
      obtain ⟨w502, hw502, hz502⟩ := oI_e hf
      subst hz502
      have hf := hw502
      refine g_sub (lvsub_of _ _ [] rfl) ?_
      exact t_L_law_590 X2 hr hlx hH hne hH0 _ _ _ _ hf hK
    · have hf := ife_t hc hf
      refine g_iload X dL_law_539 rfl ?_
      refine g_iconst (v := (1 : Int32)) X dL_law_541 (by decide) ?_
      refine g_icmp_lt (tgt := 590) X dL_law_542 (by decide) (fun hc => ?_) (fun hc => ?_)
      · have hf := ife_t hc hf
        obtain ⟨w503, hw503, hz503⟩ := oI_e hf
        subst hz503
        have hf := hw503
        obtain ⟨w504, hw504, hz504⟩ := oI_e hf
        subst hz504
        have hf := hw504
        refine g_sub (lvsub_of _ _ [] rfl) ?_
        exact t_L_law_590 X2 hr hlx hH hne hH0 _ _ _ _ hf hK
      · have hf := ife_f hc hf
        refine g_iload X dL_law_545 rfl ?_
        refine g_iconst (v := (5 : Int32)) X dL_law_547 (by decide) ?_
        refine g_icmp_gt (tgt := 590) X dL_law_548 (by decide) (fun hc => ?_) (fun hc => ?_)
        · have hf := ife_t hc hf
          obtain ⟨w505, hw505, hz505⟩ := oI_e hf
          subst hz505
          have hf := hw505
          obtain ⟨w506, hw506, hz506⟩ := oI_e hf
          subst hz506
          have hf := hw506
          refine g_sub (lvsub_of _ _ [] rfl) ?_
          exact t_L_law_590 X2 hr hlx hH hne hH0 _ _ _ _ hf hK
        · have hf := ife_f hc hf
          refine g_iload X dL_law_551 rfl ?_
          refine g_if_ne (tgt := 560) X dL_law_553 (by decide) (fun hc => ?_) (fun hc => ?_)
          · have hf := ife_f hc hf
            refine g_iconst (v := (0 : Int32)) X dL_law_560 (by decide) ?_
            obtain ⟨w507, hw507, hz507⟩ := oI_e hf
            subst hz507
            have hf := hw507
            refine g_sub (lvsub_of _ _ [6, 7, 8, 9, 10, 11, 12, 15, 16, 17, 18, 19, 4, 3, 2, 1] rfl) ?_
            exact t_L_law_561 X2 hr hlx hH hne hH0 _ _ _ _ _ _ _ _ _ _ _ _ _ _ _ _ _ _ _ _ hf hK
          · have hf := ife_t hc hf
            refine g_iconst (v := (1 : Int32)) X dL_law_556 (by decide) ?_
            refine g_goto (tgt := 561) X dL_law_557 (by decide) ?_
            obtain ⟨w508, hw508, hz508⟩ := oI_e hf
            subst hz508
            have hf := hw508
            refine g_sub (lvsub_of _ _ [6, 7, 8, 9, 10, 11, 12, 15, 16, 17, 18, 19, 4, 3, 2, 1] rfl) ?_
            exact t_L_law_561 X2 hr hlx hH hne hH0 _ _ _ _ _ _ _ _ _ _ _ _ _ _ _ _ _ _ _ _ hf hK
  · have hf := ife_f hc hf
    refine g_aload_n X dL_law_393 rfl rfl ?_
    refine g_iload X dL_law_394 rfl ?_
    obtain ⟨a510, ha510, hf⟩ := dr_e hf
    obtain ⟨hT511, hf⟩ := ck_e hf
    obtain ⟨hg512, hf⟩ := ck_e hf
    rcases bx_e hf with ⟨e509, M509, hq509, hf⟩ | ⟨r509, M509, hq509, hf⟩
    · obtain ⟨w513, hw513, hz513⟩ := oI_e hf
      subst hz513
      have hf := hw513
      obtain ⟨w514, hw514, hz514⟩ := oI_e hf
      subst hz514
      have hf := hw514
      cases hf
      refine g_eqQ hK ?_
      exact g_callTV (ci := 9) (b := a510) (As := [vI x16]) (st := []) (M1 := M509) X2 hne (m_X11_lot l hlx hH0 hq509) (cwV 1 X.2.2.1 gL_law_X11_lot rfl rfl rfl (by decide +kernel) ⟨Nat.le_of_ble_eq_true rfl, Nat.le_of_ble_eq_true rfl⟩) rfl rfl ha510 hT511 (by decide) rfl (Nat.le_of_ble_eq_true rfl) dL_law_396 ⟨hg512.1, hg512.2⟩ hg512.1 hg512.2
    refine g_callXV (ci := 9) (b := a510) (As := [vI x16]) (st := []) (v := some (vI r509)) (M1 := M509) X2 (m_X11_lot l hlx hH0 hq509) (cwV 1 X.2.2.1 gL_law_X11_lot rfl rfl rfl (by decide +kernel) ⟨Nat.le_of_ble_eq_true rfl, Nat.le_of_ble_eq_true rfl⟩) rfl rfl ha510 hT511 (by decide) rfl (Nat.le_of_ble_eq_true rfl) dL_law_396 ⟨hg512.1, hg512.2⟩ ?_
    refine g_if_lt (tgt := 425) X dL_law_399 (by decide) (fun hc => ?_) (fun hc => ?_)
    · have hf := ife_t hc hf
      obtain ⟨w515, hw515, hz515⟩ := oI_e hf
      subst hz515
      have hf := hw515
      obtain ⟨w516, hw516, hz516⟩ := oI_e hf
      subst hz516
      have hf := hw516
      refine g_sub (lvsub_of _ _ [] rfl) ?_
      exact t_L_law_425 X2 hr hlx hH hne hH0 _ _ _ _ hf hK
    · have hf := ife_f hc hf
      refine g_aload_n X dL_law_402 rfl rfl ?_
      refine g_iload X dL_law_403 rfl ?_
      obtain ⟨hT518, hf⟩ := ck_e hf
      obtain ⟨hg519, hf⟩ := ck_e hf
      rcases bx_e hf with ⟨e517, M517, hq517, hf⟩ | ⟨r517, M517, hq517, hf⟩
      · obtain ⟨w520, hw520, hz520⟩ := oI_e hf
        subst hz520
        have hf := hw520
        obtain ⟨w521, hw521, hz521⟩ := oI_e hf
        subst hz521
        have hf := hw521
        cases hf
        refine g_eqQ hK ?_
        exact g_callTV (ci := 9) (b := a510) (As := [vI x16]) (st := []) (M1 := M517) X2 hne (m_X11_lot l hlx hH0 hq517) (cwV 1 X.2.2.1 gL_law_X11_lot rfl rfl rfl (by decide +kernel) ⟨Nat.le_of_ble_eq_true rfl, Nat.le_of_ble_eq_true rfl⟩) rfl rfl ha510 hT518 (by decide) rfl (Nat.le_of_ble_eq_true rfl) dL_law_405 ⟨hg519.1, hg519.2⟩ hg519.1 hg519.2
      refine g_callXV (ci := 9) (b := a510) (As := [vI x16]) (st := []) (v := some (vI r517)) (M1 := M517) X2 (m_X11_lot l hlx hH0 hq517) (cwV 1 X.2.2.1 gL_law_X11_lot rfl rfl rfl (by decide +kernel) ⟨Nat.le_of_ble_eq_true rfl, Nat.le_of_ble_eq_true rfl⟩) rfl rfl ha510 hT518 (by decide) rfl (Nat.le_of_ble_eq_true rfl) dL_law_405 ⟨hg519.1, hg519.2⟩ ?_
      refine g_iload X dL_law_408 rfl ?_
      refine g_icmp_ge (tgt := 425) X dL_law_410 (by decide) (fun hc => ?_) (fun hc => ?_)
      · have hf := ife_t hc hf
        obtain ⟨w522, hw522, hz522⟩ := oI_e hf
        subst hz522
        have hf := hw522
        obtain ⟨w523, hw523, hz523⟩ := oI_e hf
        subst hz523
        have hf := hw523
        refine g_sub (lvsub_of _ _ [] rfl) ?_
        exact t_L_law_425 X2 hr hlx hH hne hH0 _ _ _ _ hf hK
      · have hf := ife_f hc hf
        refine g_aload X dL_law_413 rfl ?_
        refine g_aload_n X dL_law_415 rfl rfl ?_
        refine g_iload X dL_law_416 rfl ?_
        obtain ⟨hT525, hf⟩ := ck_e hf
        obtain ⟨hg526, hf⟩ := ck_e hf
        rcases bx_e hf with ⟨e524, M524, hq524, hf⟩ | ⟨r524, M524, hq524, hf⟩
        · obtain ⟨w527, hw527, hz527⟩ := oI_e hf
          subst hz527
          have hf := hw527
          obtain ⟨w528, hw528, hz528⟩ := oI_e hf
          subst hz528
          have hf := hw528
          cases hf
          refine g_eqQ hK ?_
          exact g_callTV (ci := 9) (b := a510) (As := [vI x16]) (st := [vR x15]) (M1 := M524) X2 hne (m_X11_lot l hlx hH0 hq524) (cwV 1 X.2.2.1 gL_law_X11_lot rfl rfl rfl (by decide +kernel) ⟨Nat.le_of_ble_eq_true rfl, Nat.le_of_ble_eq_true rfl⟩) rfl rfl ha510 hT525 (by decide) rfl (Nat.le_of_ble_eq_true rfl) dL_law_418 ⟨hg526.1, hg526.2⟩ hg526.1 hg526.2
        refine g_callXV (ci := 9) (b := a510) (As := [vI x16]) (st := [vR x15]) (v := some (vI r524)) (M1 := M524) X2 (m_X11_lot l hlx hH0 hq524) (cwV 1 X.2.2.1 gL_law_X11_lot rfl rfl rfl (by decide +kernel) ⟨Nat.le_of_ble_eq_true rfl, Nat.le_of_ble_eq_true rfl⟩) rfl rfl ha510 hT525 (by decide) rfl (Nat.le_of_ble_eq_true rfl) dL_law_418 ⟨hg526.1, hg526.2⟩ ?_
        obtain ⟨a529, ha529, hf⟩ := dr_e hf
        obtain ⟨hT530, hf⟩ := ck_e hf
        obtain ⟨hg531, hf⟩ := ck_e hf
        refine g_zald X dL_law_421 ha529 hT530 hg531 ?_
        refine g_if_eq (tgt := 427) X dL_law_422 (by decide) (fun hc => ?_) (fun hc => ?_)
        · have hf := ife_t hc hf
          refine g_aload X dL_law_427 rfl ?_
          refine g_aload_n X dL_law_429 rfl rfl ?_
          refine g_iload X dL_law_430 rfl ?_
          obtain ⟨hT533, hf⟩ := ck_e hf
          obtain ⟨hg534, hf⟩ := ck_e hf
          rcases bx_e hf with ⟨e532, M532, hq532, hf⟩ | ⟨r532, M532, hq532, hf⟩
          · obtain ⟨w535, hw535, hz535⟩ := oI_e hf
            subst hz535
            have hf := hw535
            obtain ⟨w536, hw536, hz536⟩ := oI_e hf
            subst hz536
            have hf := hw536
            cases hf
            refine g_eqQ hK ?_
            exact g_callTV (ci := 9) (b := a510) (As := [vI x16]) (st := [vR x15]) (M1 := M532) X2 hne (m_X11_lot l hlx hH0 hq532) (cwV 1 X.2.2.1 gL_law_X11_lot rfl rfl rfl (by decide +kernel) ⟨Nat.le_of_ble_eq_true rfl, Nat.le_of_ble_eq_true rfl⟩) rfl rfl ha510 hT533 (by decide) rfl (Nat.le_of_ble_eq_true rfl) dL_law_432 ⟨hg534.1, hg534.2⟩ hg534.1 hg534.2
          refine g_callXV (ci := 9) (b := a510) (As := [vI x16]) (st := [vR x15]) (v := some (vI r532)) (M1 := M532) X2 (m_X11_lot l hlx hH0 hq532) (cwV 1 X.2.2.1 gL_law_X11_lot rfl rfl rfl (by decide +kernel) ⟨Nat.le_of_ble_eq_true rfl, Nat.le_of_ble_eq_true rfl⟩) rfl rfl ha510 hT533 (by decide) rfl (Nat.le_of_ble_eq_true rfl) dL_law_432 ⟨hg534.1, hg534.2⟩ ?_
          refine g_iconst (v := (1 : Int32)) X dL_law_435 (by decide) ?_
          obtain ⟨hT537, hf⟩ := ck_e hf
          obtain ⟨hg538, hf⟩ := ck_e hf
          refine g_zast X dL_law_436 ha529 hT537 hg538 ?_
          obtain ⟨M539, hM539, hf⟩ := lw_e hf
          rw [← hM539]
          have hT540 : mT M539 a529 = 29 := by rw [hM539]; exact hT537
          refine g_iinc (v := (1 : Int32)) (lv' := [(16, vI (x16 + (1 : Int32))), (0, vR (some (Z 400))), (2, vR x2), (3, vR x3), (4, vI x4), (5, vI x5), (6, vI x6), (7, vI x7), (8, vI x8), (9, vI x9), (10, vR x10), (11, vR x11), (12, vR x12), (13, vI x13), (14, vI x14), (15, vR x15)]) X dL_law_437 rfl (by decide) (by decide) rfl ?_
          refine g_goto (tgt := 386) X dL_law_440 (by decide) ?_
          cases hf
          refine g_sub (lvsub_of _ _ [1, 2, 3, 4, 5, 6, 7, 8, 9, 10, 11, 12, 13, 14, 15, 0] rfl) ?_
          exact hK
        · have hf := ife_f hc hf
          obtain ⟨w541, hw541, hz541⟩ := oI_e hf
          subst hz541
          have hf := hw541
          obtain ⟨w542, hw542, hz542⟩ := oI_e hf
          subst hz542
          have hf := hw542
          refine g_sub (lvsub_of _ _ [] rfl) ?_
          exact t_L_law_425 X2 hr hlx hH hne hH0 _ _ _ _ hf hK
set_option maxHeartbeats 4000000 in
set_option maxRecDepth 100000 in
theorem tl_L_law_386 (X2 : gX p s m args meth c D cy B (gSt2 Z B H0) RL cL_law wsL_law 34) (hr : meth.sig.returnType = (some .boolean)) (hlx : l.stackTraces = false) (hH : ∀ q : Nat, q < B → s.heap[q]? = H0[q]?) (hne : ∀ x ∈ c.exceptionTable.toList, False) (hH0 : H0.size = B) {Q : State → Prop} : ∀ (M : gMem) (kc : Nat) (kn : Nat) (x2 : Option Nat) (x3 : Option Nat) (x4 : Int32) (x5 : Int32) (x6 : Int32) (x7 : Int32) (x8 : Int32) (x9 : Int32) (x10 : Option Nat) (x11 : Option Nat) (x12 : Option Nat) (x13 : Int32) (x14 : Int32) (x15 : Option Nat) (x16 : Int32) (z : (gMem × Nat × Nat × Int32) ⊕ ((Nat ⊕ Int32) × gMem)), lp_L_law_386 Z M kc kn x2 x3 x4 x5 x6 x7 x8 x9 x10 x11 x12 x13 x14 x15 x16 = some z → (Sum.elim (fun (q : gMem × Nat × Nat × Int32) => gGo p l e rL_law s m args below meth c D cy B H0 34 q.2.1 q.2.2.1 Q 59 [(0, vR (some (Z 400))), (2, vR x2), (3, vR x3), (4, vI x4), (5, vI x5), (6, vI x6), (7, vI q.2.2.2)] [] q.1) (fun (r : (Nat ⊕ Int32) × gMem) => Q = gMX below D cy B H0 args s 600086 7301442 (gzI r.1) r.2)) z → gGo p l e rL_law s m args below meth c D cy B H0 34 kc kn Q 386 [(0, vR (some (Z 400))), (2, vR x2), (3, vR x3), (4, vI x4), (5, vI x5), (6, vI x6), (7, vI x7), (8, vI x8), (9, vI x9), (10, vR x10), (11, vR x11), (12, vR x12), (13, vI x13), (14, vI x14), (15, vR x15), (16, vI x16)] [] M := by
  intro M kc kn x2 x3 x4 x5 x6 x7 x8 x9 x10 x11 x12 x13 x14 x15 x16 z hf hK
  refine lp_ind (P := (fun (q : gMem × Nat × Nat × Int32) (z : (gMem × Nat × Nat × Int32) ⊕ ((Nat ⊕ Int32) × gMem)) => (Sum.elim (fun (q : gMem × Nat × Nat × Int32) => gGo p l e rL_law s m args below meth c D cy B H0 34 q.2.1 q.2.2.1 Q 59 [(0, vR (some (Z 400))), (2, vR x2), (3, vR x3), (4, vI x4), (5, vI x5), (6, vI x6), (7, vI q.2.2.2)] [] q.1) (fun (r : (Nat ⊕ Int32) × gMem) => Q = gMX below D cy B H0 args s 600086 7301442 (gzI r.1) r.2)) z → gGo p l e rL_law s m args below meth c D cy B H0 34 q.2.1 q.2.2.1 Q 386 [(0, vR (some (Z 400))), (2, vR x2), (3, vR x3), (4, vI x4), (5, vI x5), (6, vI x6), (7, vI x7), (8, vI x8), (9, vI x9), (10, vR x10), (11, vR x11), (12, vR x12), (13, vI x13), (14, vI x14), (15, vR x15), (16, vI q.2.2.2)] [] q.1)) (fun q z hq => ?_) _ _ hf hK
  intro hK
  obtain ⟨w, hw, hm⟩ := hq
  refine tb_L_law_386 X2 hr hlx hH hne hH0 _ _ _ _ _ _ _ _ _ _ _ _ _ _ _ _ _ _ w hw ?_
  cases w with
  | inl a => exact hm hK
  | inr b => cases hm; exact hK
set_option maxHeartbeats 4000000 in
set_option maxRecDepth 100000 in
theorem tb_L_law_327 (X2 : gX p s m args meth c D cy B (gSt2 Z B H0) RL cL_law wsL_law 34) (hr : meth.sig.returnType = (some .boolean)) (hlx : l.stackTraces = false) (hH : ∀ q : Nat, q < B → s.heap[q]? = H0[q]?) (hne : ∀ x ∈ c.exceptionTable.toList, False) (hH0 : H0.size = B) {Q : State → Prop} : ∀ (M : gMem) (kc : Nat) (kn : Nat) (x2 : Option Nat) (x3 : Option Nat) (x4 : Int32) (x5 : Int32) (x6 : Int32) (x7 : Int32) (x8 : Int32) (x9 : Int32) (x10 : Option Nat) (x11 : Option Nat) (x12 : Option Nat) (x13 : Int32) (x14 : Int32) (z : (gMem × Nat × Nat × Int32) ⊕ ((gMem × Nat × Nat × Int32) ⊕ ((gMem × Nat × Nat × Int32) ⊕ ((Nat ⊕ Int32) × gMem)))), bb_L_law_327 Z M kc kn x2 x3 x4 x5 x6 x7 x8 x9 x10 x11 x12 x13 x14 = some z → (Sum.elim (fun (q : gMem × Nat × Nat × Int32) => gGo p l e rL_law s m args below meth c D cy B H0 34 q.2.1 q.2.2.1 Q 327 [(0, vR (some (Z 400))), (2, vR x2), (3, vR x3), (4, vI x4), (5, vI x5), (6, vI x6), (7, vI x7), (8, vI x8), (9, vI x9), (10, vR x10), (11, vR x11), (12, vR x12), (13, vI x13), (14, vI q.2.2.2)] [] q.1) (Sum.elim (fun (q : gMem × Nat × Nat × Int32) => gGo p l e rL_law s m args below meth c D cy B H0 34 q.2.1 q.2.2.1 Q 317 [(0, vR (some (Z 400))), (2, vR x2), (3, vR x3), (4, vI x4), (5, vI x5), (6, vI x6), (7, vI x7), (8, vI x8), (9, vI x9), (10, vR x10), (11, vR x11), (12, vR x12), (13, vI q.2.2.2)] [] q.1) (Sum.elim (fun (q : gMem × Nat × Nat × Int32) => gGo p l e rL_law s m args below meth c D cy B H0 34 q.2.1 q.2.2.1 Q 59 [(0, vR (some (Z 400))), (2, vR x2), (3, vR x3), (4, vI x4), (5, vI x5), (6, vI x6), (7, vI q.2.2.2)] [] q.1) (fun (r : (Nat ⊕ Int32) × gMem) => Q = gMX below D cy B H0 args s 600086 7301442 (gzI r.1) r.2)))) z → gGo p l e rL_law s m args below meth c D cy B H0 34 kc kn Q 327 [(0, vR (some (Z 400))), (2, vR x2), (3, vR x3), (4, vI x4), (5, vI x5), (6, vI x6), (7, vI x7), (8, vI x8), (9, vI x9), (10, vR x10), (11, vR x11), (12, vR x12), (13, vI x13), (14, vI x14)] [] M := by
  intro M kc kn x2 x3 x4 x5 x6 x7 x8 x9 x10 x11 x12 x13 x14 z hf hK
  unfold bb_L_law_327 at hf
  have X := gX_w X2
  refine g_iload X dL_law_327 rfl ?_
  refine g_bipush (v := (7 : Int32)) X dL_law_329 (by decide) ?_
  refine g_icmp_ge (tgt := 356) X dL_law_331 (by decide) (fun hc => ?_) (fun hc => ?_)
  · have hf := ife_t hc hf
    refine g_iinc (v := (1 : Int32)) (lv' := [(13, vI (x13 + (1 : Int32))), (0, vR (some (Z 400))), (2, vR x2), (3, vR x3), (4, vI x4), (5, vI x5), (6, vI x6), (7, vI x7), (8, vI x8), (9, vI x9), (10, vR x10), (11, vR x11), (12, vR x12), (14, vI x14)]) X dL_law_356 rfl (by decide) (by decide) rfl ?_
    refine g_goto (tgt := 317) X dL_law_359 (by decide) ?_
    obtain ⟨w543, hw543, hz543⟩ := oI_e hf
    subst hz543
    have hf := hw543
    cases hf
    refine g_sub (lvsub_of _ _ [1, 2, 3, 4, 5, 6, 7, 8, 9, 10, 11, 12, 0] rfl) ?_
    exact hK
  · have hf := ife_f hc hf
    refine g_aload X dL_law_334 rfl ?_
    refine g_iload X dL_law_336 rfl ?_
    obtain ⟨a544, ha544, hf⟩ := dr_e hf
    obtain ⟨hT545, hf⟩ := ck_e hf
    obtain ⟨hg546, hf⟩ := ck_e hf
    refine g_aaldA X dL_law_338 ha544 hT545 hg546 ?_
    refine g_iload X dL_law_339 rfl ?_
    refine g_aload_n X dL_law_341 rfl rfl ?_
    refine g_iload X dL_law_342 rfl ?_
    refine g_iload X dL_law_344 rfl ?_
    obtain ⟨a548, ha548, hf⟩ := dr_e hf
    obtain ⟨hT549, hf⟩ := ck_e hf
    obtain ⟨hg550, hf⟩ := ck_e hf
    rcases bx_e hf with ⟨e547, M547, hq547, hf⟩ | ⟨r547, M547, hq547, hf⟩
    · obtain ⟨w551, hw551, hz551⟩ := oI_e hf
      subst hz551
      have hf := hw551
      obtain ⟨w552, hw552, hz552⟩ := oI_e hf
      subst hz552
      have hf := hw552
      obtain ⟨w553, hw553, hz553⟩ := oI_e hf
      subst hz553
      have hf := hw553
      cases hf
      refine g_eqQ hK ?_
      exact g_callTV (ci := 9) (b := a548) (As := [vI x13, vI x14]) (st := [vI x14, vR (mR M a544 x13.toNatClampNeg)]) (M1 := M547) X2 hne (m_X11_pact l hlx hH0 hq547) (cwV 2 X.2.2.1 gL_law_X11_pact rfl rfl rfl (by decide +kernel) ⟨Nat.le_of_ble_eq_true rfl, Nat.le_of_ble_eq_true rfl⟩) rfl rfl ha548 hT549 (by decide) rfl (Nat.le_of_ble_eq_true rfl) dL_law_346 ⟨hg550.1, hg550.2⟩ hg550.1 hg550.2
    refine g_callXV (ci := 9) (b := a548) (As := [vI x13, vI x14]) (st := [vI x14, vR (mR M a544 x13.toNatClampNeg)]) (v := some (vI r547)) (M1 := M547) X2 (m_X11_pact l hlx hH0 hq547) (cwV 2 X.2.2.1 gL_law_X11_pact rfl rfl rfl (by decide +kernel) ⟨Nat.le_of_ble_eq_true rfl, Nat.le_of_ble_eq_true rfl⟩) rfl rfl ha548 hT549 (by decide) rfl (Nat.le_of_ble_eq_true rfl) dL_law_346 ⟨hg550.1, hg550.2⟩ ?_
    obtain ⟨a554, ha554, hf⟩ := dr_e hf
    obtain ⟨hT555, hf⟩ := ck_e hf
    obtain ⟨hg556, hf⟩ := ck_e hf
    refine g_iast X dL_law_349 ha554 hT555 hg556 ?_
    obtain ⟨M557, hM557, hf⟩ := lw_e hf
    rw [← hM557]
    have hT558 : mT M557 a554 = 20 := by rw [hM557]; exact hT555
    refine g_iinc (v := (1 : Int32)) (lv' := [(14, vI (x14 + (1 : Int32))), (0, vR (some (Z 400))), (2, vR x2), (3, vR x3), (4, vI x4), (5, vI x5), (6, vI x6), (7, vI x7), (8, vI x8), (9, vI x9), (10, vR x10), (11, vR x11), (12, vR x12), (13, vI x13)]) X dL_law_350 rfl (by decide) (by decide) rfl ?_
    refine g_goto (tgt := 327) X dL_law_353 (by decide) ?_
    cases hf
    refine g_sub (lvsub_of _ _ [1, 2, 3, 4, 5, 6, 7, 8, 9, 10, 11, 12, 13, 0] rfl) ?_
    exact hK
set_option maxHeartbeats 4000000 in
set_option maxRecDepth 100000 in
theorem tl_L_law_327 (X2 : gX p s m args meth c D cy B (gSt2 Z B H0) RL cL_law wsL_law 34) (hr : meth.sig.returnType = (some .boolean)) (hlx : l.stackTraces = false) (hH : ∀ q : Nat, q < B → s.heap[q]? = H0[q]?) (hne : ∀ x ∈ c.exceptionTable.toList, False) (hH0 : H0.size = B) {Q : State → Prop} : ∀ (M : gMem) (kc : Nat) (kn : Nat) (x2 : Option Nat) (x3 : Option Nat) (x4 : Int32) (x5 : Int32) (x6 : Int32) (x7 : Int32) (x8 : Int32) (x9 : Int32) (x10 : Option Nat) (x11 : Option Nat) (x12 : Option Nat) (x13 : Int32) (x14 : Int32) (z : (gMem × Nat × Nat × Int32) ⊕ ((gMem × Nat × Nat × Int32) ⊕ ((Nat ⊕ Int32) × gMem))), lp_L_law_327 Z M kc kn x2 x3 x4 x5 x6 x7 x8 x9 x10 x11 x12 x13 x14 = some z → (Sum.elim (fun (q : gMem × Nat × Nat × Int32) => gGo p l e rL_law s m args below meth c D cy B H0 34 q.2.1 q.2.2.1 Q 317 [(0, vR (some (Z 400))), (2, vR x2), (3, vR x3), (4, vI x4), (5, vI x5), (6, vI x6), (7, vI x7), (8, vI x8), (9, vI x9), (10, vR x10), (11, vR x11), (12, vR x12), (13, vI q.2.2.2)] [] q.1) (Sum.elim (fun (q : gMem × Nat × Nat × Int32) => gGo p l e rL_law s m args below meth c D cy B H0 34 q.2.1 q.2.2.1 Q 59 [(0, vR (some (Z 400))), (2, vR x2), (3, vR x3), (4, vI x4), (5, vI x5), (6, vI x6), (7, vI q.2.2.2)] [] q.1) (fun (r : (Nat ⊕ Int32) × gMem) => Q = gMX below D cy B H0 args s 600086 7301442 (gzI r.1) r.2))) z → gGo p l e rL_law s m args below meth c D cy B H0 34 kc kn Q 327 [(0, vR (some (Z 400))), (2, vR x2), (3, vR x3), (4, vI x4), (5, vI x5), (6, vI x6), (7, vI x7), (8, vI x8), (9, vI x9), (10, vR x10), (11, vR x11), (12, vR x12), (13, vI x13), (14, vI x14)] [] M := by
  intro M kc kn x2 x3 x4 x5 x6 x7 x8 x9 x10 x11 x12 x13 x14 z hf hK
  refine lp_ind (P := (fun (q : gMem × Nat × Nat × Int32) (z : (gMem × Nat × Nat × Int32) ⊕ ((gMem × Nat × Nat × Int32) ⊕ ((Nat ⊕ Int32) × gMem))) => (Sum.elim (fun (q : gMem × Nat × Nat × Int32) => gGo p l e rL_law s m args below meth c D cy B H0 34 q.2.1 q.2.2.1 Q 317 [(0, vR (some (Z 400))), (2, vR x2), (3, vR x3), (4, vI x4), (5, vI x5), (6, vI x6), (7, vI x7), (8, vI x8), (9, vI x9), (10, vR x10), (11, vR x11), (12, vR x12), (13, vI q.2.2.2)] [] q.1) (Sum.elim (fun (q : gMem × Nat × Nat × Int32) => gGo p l e rL_law s m args below meth c D cy B H0 34 q.2.1 q.2.2.1 Q 59 [(0, vR (some (Z 400))), (2, vR x2), (3, vR x3), (4, vI x4), (5, vI x5), (6, vI x6), (7, vI q.2.2.2)] [] q.1) (fun (r : (Nat ⊕ Int32) × gMem) => Q = gMX below D cy B H0 args s 600086 7301442 (gzI r.1) r.2))) z → gGo p l e rL_law s m args below meth c D cy B H0 34 q.2.1 q.2.2.1 Q 327 [(0, vR (some (Z 400))), (2, vR x2), (3, vR x3), (4, vI x4), (5, vI x5), (6, vI x6), (7, vI x7), (8, vI x8), (9, vI x9), (10, vR x10), (11, vR x11), (12, vR x12), (13, vI x13), (14, vI q.2.2.2)] [] q.1)) (fun q z hq => ?_) _ _ hf hK
  intro hK
  obtain ⟨w, hw, hm⟩ := hq
  refine tb_L_law_327 X2 hr hlx hH hne hH0 _ _ _ _ _ _ _ _ _ _ _ _ _ _ _ _ w hw ?_
  cases w with
  | inl a => exact hm hK
  | inr b => cases hm; exact hK
set_option maxHeartbeats 4000000 in
set_option maxRecDepth 100000 in
theorem tb_L_law_317 (X2 : gX p s m args meth c D cy B (gSt2 Z B H0) RL cL_law wsL_law 34) (hr : meth.sig.returnType = (some .boolean)) (hlx : l.stackTraces = false) (hH : ∀ q : Nat, q < B → s.heap[q]? = H0[q]?) (hne : ∀ x ∈ c.exceptionTable.toList, False) (hH0 : H0.size = B) {Q : State → Prop} : ∀ (M : gMem) (kc : Nat) (kn : Nat) (x2 : Option Nat) (x3 : Option Nat) (x4 : Int32) (x5 : Int32) (x6 : Int32) (x7 : Int32) (x8 : Int32) (x9 : Int32) (x10 : Option Nat) (x11 : Option Nat) (x12 : Option Nat) (x13 : Int32) (z : (gMem × Nat × Nat × Int32) ⊕ ((gMem × Nat × Nat × Int32) ⊕ ((Nat ⊕ Int32) × gMem))), bb_L_law_317 Z M kc kn x2 x3 x4 x5 x6 x7 x8 x9 x10 x11 x12 x13 = some z → (Sum.elim (fun (q : gMem × Nat × Nat × Int32) => gGo p l e rL_law s m args below meth c D cy B H0 34 q.2.1 q.2.2.1 Q 317 [(0, vR (some (Z 400))), (2, vR x2), (3, vR x3), (4, vI x4), (5, vI x5), (6, vI x6), (7, vI x7), (8, vI x8), (9, vI x9), (10, vR x10), (11, vR x11), (12, vR x12), (13, vI q.2.2.2)] [] q.1) (Sum.elim (fun (q : gMem × Nat × Nat × Int32) => gGo p l e rL_law s m args below meth c D cy B H0 34 q.2.1 q.2.2.1 Q 59 [(0, vR (some (Z 400))), (2, vR x2), (3, vR x3), (4, vI x4), (5, vI x5), (6, vI x6), (7, vI q.2.2.2)] [] q.1) (fun (r : (Nat ⊕ Int32) × gMem) => Q = gMX below D cy B H0 args s 600086 7301442 (gzI r.1) r.2))) z → gGo p l e rL_law s m args below meth c D cy B H0 34 kc kn Q 317 [(0, vR (some (Z 400))), (2, vR x2), (3, vR x3), (4, vI x4), (5, vI x5), (6, vI x6), (7, vI x7), (8, vI x8), (9, vI x9), (10, vR x10), (11, vR x11), (12, vR x12), (13, vI x13)] [] M := by
  intro M kc kn x2 x3 x4 x5 x6 x7 x8 x9 x10 x11 x12 x13 z hf hK
  unfold bb_L_law_317 at hf
  have X := gX_w X2
  refine g_iload X dL_law_317 rfl ?_
  refine g_iload X dL_law_319 rfl ?_
  refine g_icmp_ge (tgt := 362) X dL_law_321 (by decide) (fun hc => ?_) (fun hc => ?_)
  · have hf := ife_t hc hf
    refine g_aload_n X dL_law_362 rfl rfl ?_
    refine g_iconst (v := (0 : Int32)) X dL_law_363 (by decide) ?_
    obtain ⟨a560, ha560, hf⟩ := dr_e hf
    obtain ⟨hT561, hf⟩ := ck_e hf
    obtain ⟨hg562, hf⟩ := ck_e hf
    rcases bx_e hf with ⟨e559, M559, hq559, hf⟩ | ⟨r559, M559, hq559, hf⟩
    · obtain ⟨w563, hw563, hz563⟩ := oI_e hf
      subst hz563
      have hf := hw563
      obtain ⟨w564, hw564, hz564⟩ := oI_e hf
      subst hz564
      have hf := hw564
      cases hf
      refine g_eqQ hK ?_
      exact g_callTV (ci := 9) (b := a560) (As := [vI (0 : Int32)]) (st := []) (M1 := M559) X2 hne (m_X11_count l hlx hH0 hq559) (cwV 1 X.2.2.1 gL_law_X11_count rfl rfl rfl (by decide +kernel) ⟨Nat.le_of_ble_eq_true rfl, Nat.le_of_ble_eq_true rfl⟩) rfl rfl ha560 hT561 (by decide) rfl (Nat.le_of_ble_eq_true rfl) dL_law_364 ⟨hg562.1, hg562.2⟩ hg562.1 hg562.2
    refine g_callXV (ci := 9) (b := a560) (As := [vI (0 : Int32)]) (st := []) (v := some (vI r559)) (M1 := M559) X2 (m_X11_count l hlx hH0 hq559) (cwV 1 X.2.2.1 gL_law_X11_count rfl rfl rfl (by decide +kernel) ⟨Nat.le_of_ble_eq_true rfl, Nat.le_of_ble_eq_true rfl⟩) rfl rfl ha560 hT561 (by decide) rfl (Nat.le_of_ble_eq_true rfl) dL_law_364 ⟨hg562.1, hg562.2⟩ ?_
    refine g_istore (lv' := [(13, vI r559), (0, vR (some (Z 400))), (2, vR x2), (3, vR x3), (4, vI x4), (5, vI x5), (6, vI x6), (7, vI x7), (8, vI x8), (9, vI x9), (10, vR x10), (11, vR x11), (12, vR x12)]) X dL_law_367 (by decide) rfl ?_
    refine g_aload_n X dL_law_369 rfl rfl ?_
    refine g_bipush (v := (6 : Int32)) X dL_law_370 (by decide) ?_
    obtain ⟨hT566, hf⟩ := ck_e hf
    obtain ⟨hg567, hf⟩ := ck_e hf
    rcases bx_e hf with ⟨e565, M565, hq565, hf⟩ | ⟨r565, M565, hq565, hf⟩
    · obtain ⟨w568, hw568, hz568⟩ := oI_e hf
      subst hz568
      have hf := hw568
      obtain ⟨w569, hw569, hz569⟩ := oI_e hf
      subst hz569
      have hf := hw569
      cases hf
      refine g_eqQ hK ?_
      exact g_callTV (ci := 9) (b := a560) (As := [vI (6 : Int32)]) (st := []) (M1 := M565) X2 hne (m_X11_count l hlx hH0 hq565) (cwV 1 X.2.2.1 gL_law_X11_count rfl rfl rfl (by decide +kernel) ⟨Nat.le_of_ble_eq_true rfl, Nat.le_of_ble_eq_true rfl⟩) rfl rfl ha560 hT566 (by decide) rfl (Nat.le_of_ble_eq_true rfl) dL_law_372 ⟨hg567.1, hg567.2⟩ hg567.1 hg567.2
    refine g_callXV (ci := 9) (b := a560) (As := [vI (6 : Int32)]) (st := []) (v := some (vI r565)) (M1 := M565) X2 (m_X11_count l hlx hH0 hq565) (cwV 1 X.2.2.1 gL_law_X11_count rfl rfl rfl (by decide +kernel) ⟨Nat.le_of_ble_eq_true rfl, Nat.le_of_ble_eq_true rfl⟩) rfl rfl ha560 hT566 (by decide) rfl (Nat.le_of_ble_eq_true rfl) dL_law_372 ⟨hg567.1, hg567.2⟩ ?_
    refine g_istore (lv' := [(14, vI r565), (13, vI r559), (0, vR (some (Z 400))), (2, vR x2), (3, vR x3), (4, vI x4), (5, vI x5), (6, vI x6), (7, vI x7), (8, vI x8), (9, vI x9), (10, vR x10), (11, vR x11), (12, vR x12)]) X dL_law_375 (by decide) rfl ?_
    refine g_iload X dL_law_377 rfl ?_
    obtain ⟨hg570, hf⟩ := ck_e hf
    obtain ⟨hg571, hf⟩ := ck_e hf
    obtain ⟨hg572, hf⟩ := ck_e hf
    refine g_newa (at' := .boolean) (t0 := 0) X k_L_law_acboolean (by exact Or.inr (Or.inr (Or.inr ⟨rfl, rfl⟩))) hg570 (by omega) ⟨hg572.1, Nat.le_trans (Nat.add_le_add_left hg571 _) hg572.2⟩ dL_law_379 ?_
    refine g_wide (k' := (((kc + 1) + 1) + 1)) (n' := (((kn + 6) + 6) + 8)) (Nat.le_refl _) (Nat.add_le_add_left hg571 _) ?_
    obtain ⟨M573, hM573, hf⟩ := lw_e hf
    rw [← hM573]
    refine g_astore (lv' := [(15, vR (some (mN M565))), (14, vI r565), (13, vI r559), (0, vR (some (Z 400))), (2, vR x2), (3, vR x3), (4, vI x4), (5, vI x5), (6, vI x6), (7, vI x7), (8, vI x8), (9, vI x9), (10, vR x10), (11, vR x11), (12, vR x12)]) X dL_law_381 (by decide) rfl ?_
    refine g_iconst (v := (0 : Int32)) X dL_law_383 (by decide) ?_
    refine g_istore (lv' := [(16, vI (0 : Int32)), (15, vR (some (mN M565))), (14, vI r565), (13, vI r559), (0, vR (some (Z 400))), (2, vR x2), (3, vR x3), (4, vI x4), (5, vI x5), (6, vI x6), (7, vI x7), (8, vI x8), (9, vI x9), (10, vR x10), (11, vR x11), (12, vR x12)]) X dL_law_384 (by decide) rfl ?_
    obtain ⟨w574, hw574, hz574⟩ := oI_e hf
    subst hz574
    have hf := hw574
    refine g_sub (lvsub_of _ _ [4, 5, 6, 7, 8, 9, 10, 11, 12, 13, 14, 15, 3, 2, 1, 0] rfl) ?_
    exact tl_L_law_386 X2 hr hlx hH hne hH0 _ _ _ _ _ _ _ _ _ _ _ _ _ _ _ _ _ _ _ hf hK
  · have hf := ife_f hc hf
    refine g_iconst (v := (0 : Int32)) X dL_law_324 (by decide) ?_
    refine g_istore (lv' := [(14, vI (0 : Int32)), (0, vR (some (Z 400))), (2, vR x2), (3, vR x3), (4, vI x4), (5, vI x5), (6, vI x6), (7, vI x7), (8, vI x8), (9, vI x9), (10, vR x10), (11, vR x11), (12, vR x12), (13, vI x13)]) X dL_law_325 (by decide) rfl ?_
    refine g_sub (lvsub_of _ _ [1, 2, 3, 4, 5, 6, 7, 8, 9, 10, 11, 12, 13, 0] rfl) ?_
    exact tl_L_law_327 X2 hr hlx hH hne hH0 _ _ _ _ _ _ _ _ _ _ _ _ _ _ _ _ _ hf hK
set_option maxHeartbeats 4000000 in
set_option maxRecDepth 100000 in
theorem tl_L_law_317 (X2 : gX p s m args meth c D cy B (gSt2 Z B H0) RL cL_law wsL_law 34) (hr : meth.sig.returnType = (some .boolean)) (hlx : l.stackTraces = false) (hH : ∀ q : Nat, q < B → s.heap[q]? = H0[q]?) (hne : ∀ x ∈ c.exceptionTable.toList, False) (hH0 : H0.size = B) {Q : State → Prop} : ∀ (M : gMem) (kc : Nat) (kn : Nat) (x2 : Option Nat) (x3 : Option Nat) (x4 : Int32) (x5 : Int32) (x6 : Int32) (x7 : Int32) (x8 : Int32) (x9 : Int32) (x10 : Option Nat) (x11 : Option Nat) (x12 : Option Nat) (x13 : Int32) (z : (gMem × Nat × Nat × Int32) ⊕ ((Nat ⊕ Int32) × gMem)), lp_L_law_317 Z M kc kn x2 x3 x4 x5 x6 x7 x8 x9 x10 x11 x12 x13 = some z → (Sum.elim (fun (q : gMem × Nat × Nat × Int32) => gGo p l e rL_law s m args below meth c D cy B H0 34 q.2.1 q.2.2.1 Q 59 [(0, vR (some (Z 400))), (2, vR x2), (3, vR x3), (4, vI x4), (5, vI x5), (6, vI x6), (7, vI q.2.2.2)] [] q.1) (fun (r : (Nat ⊕ Int32) × gMem) => Q = gMX below D cy B H0 args s 600086 7301442 (gzI r.1) r.2)) z → gGo p l e rL_law s m args below meth c D cy B H0 34 kc kn Q 317 [(0, vR (some (Z 400))), (2, vR x2), (3, vR x3), (4, vI x4), (5, vI x5), (6, vI x6), (7, vI x7), (8, vI x8), (9, vI x9), (10, vR x10), (11, vR x11), (12, vR x12), (13, vI x13)] [] M := by
  intro M kc kn x2 x3 x4 x5 x6 x7 x8 x9 x10 x11 x12 x13 z hf hK
  refine lp_ind (P := (fun (q : gMem × Nat × Nat × Int32) (z : (gMem × Nat × Nat × Int32) ⊕ ((Nat ⊕ Int32) × gMem)) => (Sum.elim (fun (q : gMem × Nat × Nat × Int32) => gGo p l e rL_law s m args below meth c D cy B H0 34 q.2.1 q.2.2.1 Q 59 [(0, vR (some (Z 400))), (2, vR x2), (3, vR x3), (4, vI x4), (5, vI x5), (6, vI x6), (7, vI q.2.2.2)] [] q.1) (fun (r : (Nat ⊕ Int32) × gMem) => Q = gMX below D cy B H0 args s 600086 7301442 (gzI r.1) r.2)) z → gGo p l e rL_law s m args below meth c D cy B H0 34 q.2.1 q.2.2.1 Q 317 [(0, vR (some (Z 400))), (2, vR x2), (3, vR x3), (4, vI x4), (5, vI x5), (6, vI x6), (7, vI x7), (8, vI x8), (9, vI x9), (10, vR x10), (11, vR x11), (12, vR x12), (13, vI q.2.2.2)] [] q.1)) (fun q z hq => ?_) _ _ hf hK
  intro hK
  obtain ⟨w, hw, hm⟩ := hq
  refine tb_L_law_317 X2 hr hlx hH hne hH0 _ _ _ _ _ _ _ _ _ _ _ _ _ _ _ w hw ?_
  cases w with
  | inl a => exact hm hK
  | inr b => cases hm; exact hK
set_option maxHeartbeats 4000000 in
set_option maxRecDepth 100000 in
theorem tb_L_law_269 (X2 : gX p s m args meth c D cy B (gSt2 Z B H0) RL cL_law wsL_law 34) (hr : meth.sig.returnType = (some .boolean)) (hlx : l.stackTraces = false) (hH : ∀ q : Nat, q < B → s.heap[q]? = H0[q]?) (hne : ∀ x ∈ c.exceptionTable.toList, False) (hH0 : H0.size = B) {Q : State → Prop} : ∀ (M : gMem) (kc : Nat) (kn : Nat) (x2 : Option Nat) (x3 : Option Nat) (x4 : Int32) (x5 : Int32) (x6 : Int32) (x7 : Int32) (x8 : Int32) (x9 : Int32) (x10 : Option Nat) (x11 : Option Nat) (x12 : Int32) (x13 : Int32) (z : (gMem × Nat × Nat × Int32) ⊕ ((gMem × Nat × Nat × Int32) ⊕ ((gMem × Nat × Nat × Int32) ⊕ ((Nat ⊕ Int32) × gMem)))), bb_L_law_269 Z M kc kn x2 x3 x4 x5 x6 x7 x8 x9 x10 x11 x12 x13 = some z → (Sum.elim (fun (q : gMem × Nat × Nat × Int32) => gGo p l e rL_law s m args below meth c D cy B H0 34 q.2.1 q.2.2.1 Q 269 [(0, vR (some (Z 400))), (2, vR x2), (3, vR x3), (4, vI x4), (5, vI x5), (6, vI x6), (7, vI x7), (8, vI x8), (9, vI x9), (10, vR x10), (11, vR x11), (12, vI x12), (13, vI q.2.2.2)] [] q.1) (Sum.elim (fun (q : gMem × Nat × Nat × Int32) => gGo p l e rL_law s m args below meth c D cy B H0 34 q.2.1 q.2.2.1 Q 259 [(0, vR (some (Z 400))), (2, vR x2), (3, vR x3), (4, vI x4), (5, vI x5), (6, vI x6), (7, vI x7), (8, vI x8), (9, vI x9), (10, vR x10), (11, vR x11), (12, vI q.2.2.2)] [] q.1) (Sum.elim (fun (q : gMem × Nat × Nat × Int32) => gGo p l e rL_law s m args below meth c D cy B H0 34 q.2.1 q.2.2.1 Q 59 [(0, vR (some (Z 400))), (2, vR x2), (3, vR x3), (4, vI x4), (5, vI x5), (6, vI x6), (7, vI q.2.2.2)] [] q.1) (fun (r : (Nat ⊕ Int32) × gMem) => Q = gMX below D cy B H0 args s 600086 7301442 (gzI r.1) r.2)))) z → gGo p l e rL_law s m args below meth c D cy B H0 34 kc kn Q 269 [(0, vR (some (Z 400))), (2, vR x2), (3, vR x3), (4, vI x4), (5, vI x5), (6, vI x6), (7, vI x7), (8, vI x8), (9, vI x9), (10, vR x10), (11, vR x11), (12, vI x12), (13, vI x13)] [] M := by
  intro M kc kn x2 x3 x4 x5 x6 x7 x8 x9 x10 x11 x12 x13 z hf hK
  unfold bb_L_law_269 at hf
  have X := gX_w X2
  refine g_iload X dL_law_269 rfl ?_
  refine g_bipush (v := (9 : Int32)) X dL_law_271 (by decide) ?_
  refine g_icmp_ge (tgt := 298) X dL_law_273 (by decide) (fun hc => ?_) (fun hc => ?_)
  · have hf := ife_t hc hf
    refine g_iinc (v := (1 : Int32)) (lv' := [(12, vI (x12 + (1 : Int32))), (0, vR (some (Z 400))), (2, vR x2), (3, vR x3), (4, vI x4), (5, vI x5), (6, vI x6), (7, vI x7), (8, vI x8), (9, vI x9), (10, vR x10), (11, vR x11), (13, vI x13)]) X dL_law_298 rfl (by decide) (by decide) rfl ?_
    refine g_goto (tgt := 259) X dL_law_301 (by decide) ?_
    obtain ⟨w575, hw575, hz575⟩ := oI_e hf
    subst hz575
    have hf := hw575
    cases hf
    refine g_sub (lvsub_of _ _ [1, 2, 3, 4, 5, 6, 7, 8, 9, 10, 11, 0] rfl) ?_
    exact hK
  · have hf := ife_f hc hf
    refine g_aload X dL_law_276 rfl ?_
    refine g_iload X dL_law_278 rfl ?_
    obtain ⟨a576, ha576, hf⟩ := dr_e hf
    obtain ⟨hT577, hf⟩ := ck_e hf
    obtain ⟨hg578, hf⟩ := ck_e hf
    refine g_aaldA X dL_law_280 ha576 hT577 hg578 ?_
    refine g_iload X dL_law_281 rfl ?_
    refine g_aload_n X dL_law_283 rfl rfl ?_
    refine g_iload X dL_law_284 rfl ?_
    refine g_iload X dL_law_286 rfl ?_
    obtain ⟨a580, ha580, hf⟩ := dr_e hf
    obtain ⟨hT581, hf⟩ := ck_e hf
    obtain ⟨hg582, hf⟩ := ck_e hf
    rcases bx_e hf with ⟨e579, M579, hq579, hf⟩ | ⟨r579, M579, hq579, hf⟩
    · obtain ⟨w583, hw583, hz583⟩ := oI_e hf
      subst hz583
      have hf := hw583
      obtain ⟨w584, hw584, hz584⟩ := oI_e hf
      subst hz584
      have hf := hw584
      obtain ⟨w585, hw585, hz585⟩ := oI_e hf
      subst hz585
      have hf := hw585
      cases hf
      refine g_eqQ hK ?_
      exact g_callTV (ci := 9) (b := a580) (As := [vI x12, vI x13]) (st := [vI x13, vR (mR M a576 x12.toNatClampNeg)]) (M1 := M579) X2 hne (m_X11_ground l hlx hH0 hq579) (cwV 2 X.2.2.1 gL_law_X11_ground rfl rfl rfl (by decide +kernel) ⟨Nat.le_of_ble_eq_true rfl, Nat.le_of_ble_eq_true rfl⟩) rfl rfl ha580 hT581 (by decide) rfl (Nat.le_of_ble_eq_true rfl) dL_law_288 ⟨hg582.1, hg582.2⟩ hg582.1 hg582.2
    refine g_callXV (ci := 9) (b := a580) (As := [vI x12, vI x13]) (st := [vI x13, vR (mR M a576 x12.toNatClampNeg)]) (v := some (vI r579)) (M1 := M579) X2 (m_X11_ground l hlx hH0 hq579) (cwV 2 X.2.2.1 gL_law_X11_ground rfl rfl rfl (by decide +kernel) ⟨Nat.le_of_ble_eq_true rfl, Nat.le_of_ble_eq_true rfl⟩) rfl rfl ha580 hT581 (by decide) rfl (Nat.le_of_ble_eq_true rfl) dL_law_288 ⟨hg582.1, hg582.2⟩ ?_
    obtain ⟨a586, ha586, hf⟩ := dr_e hf
    obtain ⟨hT587, hf⟩ := ck_e hf
    obtain ⟨hg588, hf⟩ := ck_e hf
    refine g_iast X dL_law_291 ha586 hT587 hg588 ?_
    obtain ⟨M589, hM589, hf⟩ := lw_e hf
    rw [← hM589]
    have hT590 : mT M589 a586 = 20 := by rw [hM589]; exact hT587
    refine g_iinc (v := (1 : Int32)) (lv' := [(13, vI (x13 + (1 : Int32))), (0, vR (some (Z 400))), (2, vR x2), (3, vR x3), (4, vI x4), (5, vI x5), (6, vI x6), (7, vI x7), (8, vI x8), (9, vI x9), (10, vR x10), (11, vR x11), (12, vI x12)]) X dL_law_292 rfl (by decide) (by decide) rfl ?_
    refine g_goto (tgt := 269) X dL_law_295 (by decide) ?_
    cases hf
    refine g_sub (lvsub_of _ _ [1, 2, 3, 4, 5, 6, 7, 8, 9, 10, 11, 12, 0] rfl) ?_
    exact hK
set_option maxHeartbeats 4000000 in
set_option maxRecDepth 100000 in
theorem tl_L_law_269 (X2 : gX p s m args meth c D cy B (gSt2 Z B H0) RL cL_law wsL_law 34) (hr : meth.sig.returnType = (some .boolean)) (hlx : l.stackTraces = false) (hH : ∀ q : Nat, q < B → s.heap[q]? = H0[q]?) (hne : ∀ x ∈ c.exceptionTable.toList, False) (hH0 : H0.size = B) {Q : State → Prop} : ∀ (M : gMem) (kc : Nat) (kn : Nat) (x2 : Option Nat) (x3 : Option Nat) (x4 : Int32) (x5 : Int32) (x6 : Int32) (x7 : Int32) (x8 : Int32) (x9 : Int32) (x10 : Option Nat) (x11 : Option Nat) (x12 : Int32) (x13 : Int32) (z : (gMem × Nat × Nat × Int32) ⊕ ((gMem × Nat × Nat × Int32) ⊕ ((Nat ⊕ Int32) × gMem))), lp_L_law_269 Z M kc kn x2 x3 x4 x5 x6 x7 x8 x9 x10 x11 x12 x13 = some z → (Sum.elim (fun (q : gMem × Nat × Nat × Int32) => gGo p l e rL_law s m args below meth c D cy B H0 34 q.2.1 q.2.2.1 Q 259 [(0, vR (some (Z 400))), (2, vR x2), (3, vR x3), (4, vI x4), (5, vI x5), (6, vI x6), (7, vI x7), (8, vI x8), (9, vI x9), (10, vR x10), (11, vR x11), (12, vI q.2.2.2)] [] q.1) (Sum.elim (fun (q : gMem × Nat × Nat × Int32) => gGo p l e rL_law s m args below meth c D cy B H0 34 q.2.1 q.2.2.1 Q 59 [(0, vR (some (Z 400))), (2, vR x2), (3, vR x3), (4, vI x4), (5, vI x5), (6, vI x6), (7, vI q.2.2.2)] [] q.1) (fun (r : (Nat ⊕ Int32) × gMem) => Q = gMX below D cy B H0 args s 600086 7301442 (gzI r.1) r.2))) z → gGo p l e rL_law s m args below meth c D cy B H0 34 kc kn Q 269 [(0, vR (some (Z 400))), (2, vR x2), (3, vR x3), (4, vI x4), (5, vI x5), (6, vI x6), (7, vI x7), (8, vI x8), (9, vI x9), (10, vR x10), (11, vR x11), (12, vI x12), (13, vI x13)] [] M := by
  intro M kc kn x2 x3 x4 x5 x6 x7 x8 x9 x10 x11 x12 x13 z hf hK
  refine lp_ind (P := (fun (q : gMem × Nat × Nat × Int32) (z : (gMem × Nat × Nat × Int32) ⊕ ((gMem × Nat × Nat × Int32) ⊕ ((Nat ⊕ Int32) × gMem))) => (Sum.elim (fun (q : gMem × Nat × Nat × Int32) => gGo p l e rL_law s m args below meth c D cy B H0 34 q.2.1 q.2.2.1 Q 259 [(0, vR (some (Z 400))), (2, vR x2), (3, vR x3), (4, vI x4), (5, vI x5), (6, vI x6), (7, vI x7), (8, vI x8), (9, vI x9), (10, vR x10), (11, vR x11), (12, vI q.2.2.2)] [] q.1) (Sum.elim (fun (q : gMem × Nat × Nat × Int32) => gGo p l e rL_law s m args below meth c D cy B H0 34 q.2.1 q.2.2.1 Q 59 [(0, vR (some (Z 400))), (2, vR x2), (3, vR x3), (4, vI x4), (5, vI x5), (6, vI x6), (7, vI q.2.2.2)] [] q.1) (fun (r : (Nat ⊕ Int32) × gMem) => Q = gMX below D cy B H0 args s 600086 7301442 (gzI r.1) r.2))) z → gGo p l e rL_law s m args below meth c D cy B H0 34 q.2.1 q.2.2.1 Q 269 [(0, vR (some (Z 400))), (2, vR x2), (3, vR x3), (4, vI x4), (5, vI x5), (6, vI x6), (7, vI x7), (8, vI x8), (9, vI x9), (10, vR x10), (11, vR x11), (12, vI x12), (13, vI q.2.2.2)] [] q.1)) (fun q z hq => ?_) _ _ hf hK
  intro hK
  obtain ⟨w, hw, hm⟩ := hq
  refine tb_L_law_269 X2 hr hlx hH hne hH0 _ _ _ _ _ _ _ _ _ _ _ _ _ _ _ w hw ?_
  cases w with
  | inl a => exact hm hK
  | inr b => cases hm; exact hK
set_option maxHeartbeats 4000000 in
set_option maxRecDepth 100000 in
theorem tb_L_law_259 (X2 : gX p s m args meth c D cy B (gSt2 Z B H0) RL cL_law wsL_law 34) (hr : meth.sig.returnType = (some .boolean)) (hlx : l.stackTraces = false) (hH : ∀ q : Nat, q < B → s.heap[q]? = H0[q]?) (hne : ∀ x ∈ c.exceptionTable.toList, False) (hH0 : H0.size = B) {Q : State → Prop} : ∀ (M : gMem) (kc : Nat) (kn : Nat) (x2 : Option Nat) (x3 : Option Nat) (x4 : Int32) (x5 : Int32) (x6 : Int32) (x7 : Int32) (x8 : Int32) (x9 : Int32) (x10 : Option Nat) (x11 : Option Nat) (x12 : Int32) (z : (gMem × Nat × Nat × Int32) ⊕ ((gMem × Nat × Nat × Int32) ⊕ ((Nat ⊕ Int32) × gMem))), bb_L_law_259 Z M kc kn x2 x3 x4 x5 x6 x7 x8 x9 x10 x11 x12 = some z → (Sum.elim (fun (q : gMem × Nat × Nat × Int32) => gGo p l e rL_law s m args below meth c D cy B H0 34 q.2.1 q.2.2.1 Q 259 [(0, vR (some (Z 400))), (2, vR x2), (3, vR x3), (4, vI x4), (5, vI x5), (6, vI x6), (7, vI x7), (8, vI x8), (9, vI x9), (10, vR x10), (11, vR x11), (12, vI q.2.2.2)] [] q.1) (Sum.elim (fun (q : gMem × Nat × Nat × Int32) => gGo p l e rL_law s m args below meth c D cy B H0 34 q.2.1 q.2.2.1 Q 59 [(0, vR (some (Z 400))), (2, vR x2), (3, vR x3), (4, vI x4), (5, vI x5), (6, vI x6), (7, vI q.2.2.2)] [] q.1) (fun (r : (Nat ⊕ Int32) × gMem) => Q = gMX below D cy B H0 args s 600086 7301442 (gzI r.1) r.2))) z → gGo p l e rL_law s m args below meth c D cy B H0 34 kc kn Q 259 [(0, vR (some (Z 400))), (2, vR x2), (3, vR x3), (4, vI x4), (5, vI x5), (6, vI x6), (7, vI x7), (8, vI x8), (9, vI x9), (10, vR x10), (11, vR x11), (12, vI x12)] [] M := by
  intro M kc kn x2 x3 x4 x5 x6 x7 x8 x9 x10 x11 x12 z hf hK
  unfold bb_L_law_259 at hf
  have X := gX_w X2
  refine g_iload X dL_law_259 rfl ?_
  refine g_iload X dL_law_261 rfl ?_
  refine g_icmp_ge (tgt := 304) X dL_law_263 (by decide) (fun hc => ?_) (fun hc => ?_)
  · have hf := ife_t hc hf
    refine g_iload X dL_law_304 rfl ?_
    refine g_bipush (v := (7 : Int32)) X dL_law_306 (by decide) ?_
    obtain ⟨hg591, hf⟩ := ck_e hf
    obtain ⟨hg592, hf⟩ := ck_e hf
    obtain ⟨hg593, hf⟩ := ck_e hf
    refine g_mnew (N := 8) (K := 7) X (gN2w X2 _ (by decide +kernel)) k_L_law_cl212 k_L_law_acint hg591 hg592 (by decide) (by decide) ⟨hg593.1, hg593.2⟩ dL_law_308 (by decide) ?_
    obtain ⟨M594, hM594, hf⟩ := lw_e hf
    rw [← hM594]
    refine g_astore (lv' := [(12, vR (some (mN M))), (0, vR (some (Z 400))), (2, vR x2), (3, vR x3), (4, vI x4), (5, vI x5), (6, vI x6), (7, vI x7), (8, vI x8), (9, vI x9), (10, vR x10), (11, vR x11)]) X dL_law_312 (by decide) rfl ?_
    refine g_iconst (v := (0 : Int32)) X dL_law_314 (by decide) ?_
    refine g_istore (lv' := [(13, vI (0 : Int32)), (12, vR (some (mN M))), (0, vR (some (Z 400))), (2, vR x2), (3, vR x3), (4, vI x4), (5, vI x5), (6, vI x6), (7, vI x7), (8, vI x8), (9, vI x9), (10, vR x10), (11, vR x11)]) X dL_law_315 (by decide) rfl ?_
    obtain ⟨w595, hw595, hz595⟩ := oI_e hf
    subst hz595
    have hf := hw595
    refine g_sub (lvsub_of _ _ [2, 3, 4, 5, 6, 7, 8, 9, 10, 11, 12, 1, 0] rfl) ?_
    exact tl_L_law_317 X2 hr hlx hH hne hH0 _ _ _ _ _ _ _ _ _ _ _ _ _ _ _ _ hf hK
  · have hf := ife_f hc hf
    refine g_iconst (v := (0 : Int32)) X dL_law_266 (by decide) ?_
    refine g_istore (lv' := [(13, vI (0 : Int32)), (0, vR (some (Z 400))), (2, vR x2), (3, vR x3), (4, vI x4), (5, vI x5), (6, vI x6), (7, vI x7), (8, vI x8), (9, vI x9), (10, vR x10), (11, vR x11), (12, vI x12)]) X dL_law_267 (by decide) rfl ?_
    refine g_sub (lvsub_of _ _ [1, 2, 3, 4, 5, 6, 7, 8, 9, 10, 11, 12, 0] rfl) ?_
    exact tl_L_law_269 X2 hr hlx hH hne hH0 _ _ _ _ _ _ _ _ _ _ _ _ _ _ _ _ hf hK
set_option maxHeartbeats 4000000 in
set_option maxRecDepth 100000 in
theorem tl_L_law_259 (X2 : gX p s m args meth c D cy B (gSt2 Z B H0) RL cL_law wsL_law 34) (hr : meth.sig.returnType = (some .boolean)) (hlx : l.stackTraces = false) (hH : ∀ q : Nat, q < B → s.heap[q]? = H0[q]?) (hne : ∀ x ∈ c.exceptionTable.toList, False) (hH0 : H0.size = B) {Q : State → Prop} : ∀ (M : gMem) (kc : Nat) (kn : Nat) (x2 : Option Nat) (x3 : Option Nat) (x4 : Int32) (x5 : Int32) (x6 : Int32) (x7 : Int32) (x8 : Int32) (x9 : Int32) (x10 : Option Nat) (x11 : Option Nat) (x12 : Int32) (z : (gMem × Nat × Nat × Int32) ⊕ ((Nat ⊕ Int32) × gMem)), lp_L_law_259 Z M kc kn x2 x3 x4 x5 x6 x7 x8 x9 x10 x11 x12 = some z → (Sum.elim (fun (q : gMem × Nat × Nat × Int32) => gGo p l e rL_law s m args below meth c D cy B H0 34 q.2.1 q.2.2.1 Q 59 [(0, vR (some (Z 400))), (2, vR x2), (3, vR x3), (4, vI x4), (5, vI x5), (6, vI x6), (7, vI q.2.2.2)] [] q.1) (fun (r : (Nat ⊕ Int32) × gMem) => Q = gMX below D cy B H0 args s 600086 7301442 (gzI r.1) r.2)) z → gGo p l e rL_law s m args below meth c D cy B H0 34 kc kn Q 259 [(0, vR (some (Z 400))), (2, vR x2), (3, vR x3), (4, vI x4), (5, vI x5), (6, vI x6), (7, vI x7), (8, vI x8), (9, vI x9), (10, vR x10), (11, vR x11), (12, vI x12)] [] M := by
  intro M kc kn x2 x3 x4 x5 x6 x7 x8 x9 x10 x11 x12 z hf hK
  refine lp_ind (P := (fun (q : gMem × Nat × Nat × Int32) (z : (gMem × Nat × Nat × Int32) ⊕ ((Nat ⊕ Int32) × gMem)) => (Sum.elim (fun (q : gMem × Nat × Nat × Int32) => gGo p l e rL_law s m args below meth c D cy B H0 34 q.2.1 q.2.2.1 Q 59 [(0, vR (some (Z 400))), (2, vR x2), (3, vR x3), (4, vI x4), (5, vI x5), (6, vI x6), (7, vI q.2.2.2)] [] q.1) (fun (r : (Nat ⊕ Int32) × gMem) => Q = gMX below D cy B H0 args s 600086 7301442 (gzI r.1) r.2)) z → gGo p l e rL_law s m args below meth c D cy B H0 34 q.2.1 q.2.2.1 Q 259 [(0, vR (some (Z 400))), (2, vR x2), (3, vR x3), (4, vI x4), (5, vI x5), (6, vI x6), (7, vI x7), (8, vI x8), (9, vI x9), (10, vR x10), (11, vR x11), (12, vI q.2.2.2)] [] q.1)) (fun q z hq => ?_) _ _ hf hK
  intro hK
  obtain ⟨w, hw, hm⟩ := hq
  refine tb_L_law_259 X2 hr hlx hH hne hH0 _ _ _ _ _ _ _ _ _ _ _ _ _ _ w hw ?_
  cases w with
  | inl a => exact hm hK
  | inr b => cases hm; exact hK
set_option maxHeartbeats 4000000 in
set_option maxRecDepth 100000 in
theorem tb_L_law_211 (X2 : gX p s m args meth c D cy B (gSt2 Z B H0) RL cL_law wsL_law 34) (hr : meth.sig.returnType = (some .boolean)) (hlx : l.stackTraces = false) (hH : ∀ q : Nat, q < B → s.heap[q]? = H0[q]?) (hne : ∀ x ∈ c.exceptionTable.toList, False) (hH0 : H0.size = B) {Q : State → Prop} : ∀ (M : gMem) (kc : Nat) (kn : Nat) (x2 : Option Nat) (x3 : Option Nat) (x4 : Int32) (x5 : Int32) (x6 : Int32) (x7 : Int32) (x8 : Int32) (x9 : Int32) (x10 : Option Nat) (x11 : Int32) (x12 : Int32) (z : (gMem × Nat × Nat × Int32) ⊕ ((gMem × Nat × Nat × Int32) ⊕ ((gMem × Nat × Nat × Int32) ⊕ ((Nat ⊕ Int32) × gMem)))), bb_L_law_211 Z M kc kn x2 x3 x4 x5 x6 x7 x8 x9 x10 x11 x12 = some z → (Sum.elim (fun (q : gMem × Nat × Nat × Int32) => gGo p l e rL_law s m args below meth c D cy B H0 34 q.2.1 q.2.2.1 Q 211 [(0, vR (some (Z 400))), (2, vR x2), (3, vR x3), (4, vI x4), (5, vI x5), (6, vI x6), (7, vI x7), (8, vI x8), (9, vI x9), (10, vR x10), (11, vI x11), (12, vI q.2.2.2)] [] q.1) (Sum.elim (fun (q : gMem × Nat × Nat × Int32) => gGo p l e rL_law s m args below meth c D cy B H0 34 q.2.1 q.2.2.1 Q 201 [(0, vR (some (Z 400))), (2, vR x2), (3, vR x3), (4, vI x4), (5, vI x5), (6, vI x6), (7, vI x7), (8, vI x8), (9, vI x9), (10, vR x10), (11, vI q.2.2.2)] [] q.1) (Sum.elim (fun (q : gMem × Nat × Nat × Int32) => gGo p l e rL_law s m args below meth c D cy B H0 34 q.2.1 q.2.2.1 Q 59 [(0, vR (some (Z 400))), (2, vR x2), (3, vR x3), (4, vI x4), (5, vI x5), (6, vI x6), (7, vI q.2.2.2)] [] q.1) (fun (r : (Nat ⊕ Int32) × gMem) => Q = gMX below D cy B H0 args s 600086 7301442 (gzI r.1) r.2)))) z → gGo p l e rL_law s m args below meth c D cy B H0 34 kc kn Q 211 [(0, vR (some (Z 400))), (2, vR x2), (3, vR x3), (4, vI x4), (5, vI x5), (6, vI x6), (7, vI x7), (8, vI x8), (9, vI x9), (10, vR x10), (11, vI x11), (12, vI x12)] [] M := by
  intro M kc kn x2 x3 x4 x5 x6 x7 x8 x9 x10 x11 x12 z hf hK
  unfold bb_L_law_211 at hf
  have X := gX_w X2
  refine g_iload X dL_law_211 rfl ?_
  refine g_bipush (v := (10 : Int32)) X dL_law_213 (by decide) ?_
  refine g_icmp_ge (tgt := 240) X dL_law_215 (by decide) (fun hc => ?_) (fun hc => ?_)
  · have hf := ife_t hc hf
    refine g_iinc (v := (1 : Int32)) (lv' := [(11, vI (x11 + (1 : Int32))), (0, vR (some (Z 400))), (2, vR x2), (3, vR x3), (4, vI x4), (5, vI x5), (6, vI x6), (7, vI x7), (8, vI x8), (9, vI x9), (10, vR x10), (12, vI x12)]) X dL_law_240 rfl (by decide) (by decide) rfl ?_
    refine g_goto (tgt := 201) X dL_law_243 (by decide) ?_
    obtain ⟨w596, hw596, hz596⟩ := oI_e hf
    subst hz596
    have hf := hw596
    cases hf
    refine g_sub (lvsub_of _ _ [1, 2, 3, 4, 5, 6, 7, 8, 9, 10, 0] rfl) ?_
    exact hK
  · have hf := ife_f hc hf
    refine g_aload X dL_law_218 rfl ?_
    refine g_iload X dL_law_220 rfl ?_
    obtain ⟨a597, ha597, hf⟩ := dr_e hf
    obtain ⟨hT598, hf⟩ := ck_e hf
    obtain ⟨hg599, hf⟩ := ck_e hf
    refine g_aaldA X dL_law_222 ha597 hT598 hg599 ?_
    refine g_iload X dL_law_223 rfl ?_
    refine g_aload_n X dL_law_225 rfl rfl ?_
    refine g_iload X dL_law_226 rfl ?_
    refine g_iload X dL_law_228 rfl ?_
    obtain ⟨a601, ha601, hf⟩ := dr_e hf
    obtain ⟨hT602, hf⟩ := ck_e hf
    obtain ⟨hg603, hf⟩ := ck_e hf
    rcases bx_e hf with ⟨e600, M600, hq600, hf⟩ | ⟨r600, M600, hq600, hf⟩
    · obtain ⟨w604, hw604, hz604⟩ := oI_e hf
      subst hz604
      have hf := hw604
      obtain ⟨w605, hw605, hz605⟩ := oI_e hf
      subst hz605
      have hf := hw605
      obtain ⟨w606, hw606, hz606⟩ := oI_e hf
      subst hz606
      have hf := hw606
      cases hf
      refine g_eqQ hK ?_
      exact g_callTV (ci := 9) (b := a601) (As := [vI x11, vI x12]) (st := [vI x12, vR (mR M a597 x11.toNatClampNeg)]) (M1 := M600) X2 hne (m_X11_fisher l hlx hH0 hq600) (cwV 2 X.2.2.1 gL_law_X11_fisher rfl rfl rfl (by decide +kernel) ⟨Nat.le_of_ble_eq_true rfl, Nat.le_of_ble_eq_true rfl⟩) rfl rfl ha601 hT602 (by decide) rfl (Nat.le_of_ble_eq_true rfl) dL_law_230 ⟨hg603.1, hg603.2⟩ hg603.1 hg603.2
    refine g_callXV (ci := 9) (b := a601) (As := [vI x11, vI x12]) (st := [vI x12, vR (mR M a597 x11.toNatClampNeg)]) (v := some (vI r600)) (M1 := M600) X2 (m_X11_fisher l hlx hH0 hq600) (cwV 2 X.2.2.1 gL_law_X11_fisher rfl rfl rfl (by decide +kernel) ⟨Nat.le_of_ble_eq_true rfl, Nat.le_of_ble_eq_true rfl⟩) rfl rfl ha601 hT602 (by decide) rfl (Nat.le_of_ble_eq_true rfl) dL_law_230 ⟨hg603.1, hg603.2⟩ ?_
    obtain ⟨a607, ha607, hf⟩ := dr_e hf
    obtain ⟨hT608, hf⟩ := ck_e hf
    obtain ⟨hg609, hf⟩ := ck_e hf
    refine g_iast X dL_law_233 ha607 hT608 hg609 ?_
    obtain ⟨M610, hM610, hf⟩ := lw_e hf
    rw [← hM610]
    have hT611 : mT M610 a607 = 20 := by rw [hM610]; exact hT608
    refine g_iinc (v := (1 : Int32)) (lv' := [(12, vI (x12 + (1 : Int32))), (0, vR (some (Z 400))), (2, vR x2), (3, vR x3), (4, vI x4), (5, vI x5), (6, vI x6), (7, vI x7), (8, vI x8), (9, vI x9), (10, vR x10), (11, vI x11)]) X dL_law_234 rfl (by decide) (by decide) rfl ?_
    refine g_goto (tgt := 211) X dL_law_237 (by decide) ?_
    cases hf
    refine g_sub (lvsub_of _ _ [1, 2, 3, 4, 5, 6, 7, 8, 9, 10, 11, 0] rfl) ?_
    exact hK
set_option maxHeartbeats 4000000 in
set_option maxRecDepth 100000 in
theorem tl_L_law_211 (X2 : gX p s m args meth c D cy B (gSt2 Z B H0) RL cL_law wsL_law 34) (hr : meth.sig.returnType = (some .boolean)) (hlx : l.stackTraces = false) (hH : ∀ q : Nat, q < B → s.heap[q]? = H0[q]?) (hne : ∀ x ∈ c.exceptionTable.toList, False) (hH0 : H0.size = B) {Q : State → Prop} : ∀ (M : gMem) (kc : Nat) (kn : Nat) (x2 : Option Nat) (x3 : Option Nat) (x4 : Int32) (x5 : Int32) (x6 : Int32) (x7 : Int32) (x8 : Int32) (x9 : Int32) (x10 : Option Nat) (x11 : Int32) (x12 : Int32) (z : (gMem × Nat × Nat × Int32) ⊕ ((gMem × Nat × Nat × Int32) ⊕ ((Nat ⊕ Int32) × gMem))), lp_L_law_211 Z M kc kn x2 x3 x4 x5 x6 x7 x8 x9 x10 x11 x12 = some z → (Sum.elim (fun (q : gMem × Nat × Nat × Int32) => gGo p l e rL_law s m args below meth c D cy B H0 34 q.2.1 q.2.2.1 Q 201 [(0, vR (some (Z 400))), (2, vR x2), (3, vR x3), (4, vI x4), (5, vI x5), (6, vI x6), (7, vI x7), (8, vI x8), (9, vI x9), (10, vR x10), (11, vI q.2.2.2)] [] q.1) (Sum.elim (fun (q : gMem × Nat × Nat × Int32) => gGo p l e rL_law s m args below meth c D cy B H0 34 q.2.1 q.2.2.1 Q 59 [(0, vR (some (Z 400))), (2, vR x2), (3, vR x3), (4, vI x4), (5, vI x5), (6, vI x6), (7, vI q.2.2.2)] [] q.1) (fun (r : (Nat ⊕ Int32) × gMem) => Q = gMX below D cy B H0 args s 600086 7301442 (gzI r.1) r.2))) z → gGo p l e rL_law s m args below meth c D cy B H0 34 kc kn Q 211 [(0, vR (some (Z 400))), (2, vR x2), (3, vR x3), (4, vI x4), (5, vI x5), (6, vI x6), (7, vI x7), (8, vI x8), (9, vI x9), (10, vR x10), (11, vI x11), (12, vI x12)] [] M := by
  intro M kc kn x2 x3 x4 x5 x6 x7 x8 x9 x10 x11 x12 z hf hK
  refine lp_ind (P := (fun (q : gMem × Nat × Nat × Int32) (z : (gMem × Nat × Nat × Int32) ⊕ ((gMem × Nat × Nat × Int32) ⊕ ((Nat ⊕ Int32) × gMem))) => (Sum.elim (fun (q : gMem × Nat × Nat × Int32) => gGo p l e rL_law s m args below meth c D cy B H0 34 q.2.1 q.2.2.1 Q 201 [(0, vR (some (Z 400))), (2, vR x2), (3, vR x3), (4, vI x4), (5, vI x5), (6, vI x6), (7, vI x7), (8, vI x8), (9, vI x9), (10, vR x10), (11, vI q.2.2.2)] [] q.1) (Sum.elim (fun (q : gMem × Nat × Nat × Int32) => gGo p l e rL_law s m args below meth c D cy B H0 34 q.2.1 q.2.2.1 Q 59 [(0, vR (some (Z 400))), (2, vR x2), (3, vR x3), (4, vI x4), (5, vI x5), (6, vI x6), (7, vI q.2.2.2)] [] q.1) (fun (r : (Nat ⊕ Int32) × gMem) => Q = gMX below D cy B H0 args s 600086 7301442 (gzI r.1) r.2))) z → gGo p l e rL_law s m args below meth c D cy B H0 34 q.2.1 q.2.2.1 Q 211 [(0, vR (some (Z 400))), (2, vR x2), (3, vR x3), (4, vI x4), (5, vI x5), (6, vI x6), (7, vI x7), (8, vI x8), (9, vI x9), (10, vR x10), (11, vI x11), (12, vI q.2.2.2)] [] q.1)) (fun q z hq => ?_) _ _ hf hK
  intro hK
  obtain ⟨w, hw, hm⟩ := hq
  refine tb_L_law_211 X2 hr hlx hH hne hH0 _ _ _ _ _ _ _ _ _ _ _ _ _ _ w hw ?_
  cases w with
  | inl a => exact hm hK
  | inr b => cases hm; exact hK
set_option maxHeartbeats 4000000 in
set_option maxRecDepth 100000 in
theorem tb_L_law_201 (X2 : gX p s m args meth c D cy B (gSt2 Z B H0) RL cL_law wsL_law 34) (hr : meth.sig.returnType = (some .boolean)) (hlx : l.stackTraces = false) (hH : ∀ q : Nat, q < B → s.heap[q]? = H0[q]?) (hne : ∀ x ∈ c.exceptionTable.toList, False) (hH0 : H0.size = B) {Q : State → Prop} : ∀ (M : gMem) (kc : Nat) (kn : Nat) (x2 : Option Nat) (x3 : Option Nat) (x4 : Int32) (x5 : Int32) (x6 : Int32) (x7 : Int32) (x8 : Int32) (x9 : Int32) (x10 : Option Nat) (x11 : Int32) (z : (gMem × Nat × Nat × Int32) ⊕ ((gMem × Nat × Nat × Int32) ⊕ ((Nat ⊕ Int32) × gMem))), bb_L_law_201 Z M kc kn x2 x3 x4 x5 x6 x7 x8 x9 x10 x11 = some z → (Sum.elim (fun (q : gMem × Nat × Nat × Int32) => gGo p l e rL_law s m args below meth c D cy B H0 34 q.2.1 q.2.2.1 Q 201 [(0, vR (some (Z 400))), (2, vR x2), (3, vR x3), (4, vI x4), (5, vI x5), (6, vI x6), (7, vI x7), (8, vI x8), (9, vI x9), (10, vR x10), (11, vI q.2.2.2)] [] q.1) (Sum.elim (fun (q : gMem × Nat × Nat × Int32) => gGo p l e rL_law s m args below meth c D cy B H0 34 q.2.1 q.2.2.1 Q 59 [(0, vR (some (Z 400))), (2, vR x2), (3, vR x3), (4, vI x4), (5, vI x5), (6, vI x6), (7, vI q.2.2.2)] [] q.1) (fun (r : (Nat ⊕ Int32) × gMem) => Q = gMX below D cy B H0 args s 600086 7301442 (gzI r.1) r.2))) z → gGo p l e rL_law s m args below meth c D cy B H0 34 kc kn Q 201 [(0, vR (some (Z 400))), (2, vR x2), (3, vR x3), (4, vI x4), (5, vI x5), (6, vI x6), (7, vI x7), (8, vI x8), (9, vI x9), (10, vR x10), (11, vI x11)] [] M := by
  intro M kc kn x2 x3 x4 x5 x6 x7 x8 x9 x10 x11 z hf hK
  unfold bb_L_law_201 at hf
  have X := gX_w X2
  refine g_iload X dL_law_201 rfl ?_
  refine g_iload X dL_law_203 rfl ?_
  refine g_icmp_ge (tgt := 246) X dL_law_205 (by decide) (fun hc => ?_) (fun hc => ?_)
  · have hf := ife_t hc hf
    refine g_iload X dL_law_246 rfl ?_
    refine g_bipush (v := (9 : Int32)) X dL_law_248 (by decide) ?_
    obtain ⟨hg612, hf⟩ := ck_e hf
    obtain ⟨hg613, hf⟩ := ck_e hf
    obtain ⟨hg614, hf⟩ := ck_e hf
    refine g_mnew (N := 8) (K := 9) X (gN2w X2 _ (by decide +kernel)) k_L_law_cl212 k_L_law_acint hg612 hg613 (by decide) (by decide) ⟨hg614.1, hg614.2⟩ dL_law_250 (by decide) ?_
    obtain ⟨M615, hM615, hf⟩ := lw_e hf
    rw [← hM615]
    refine g_astore (lv' := [(11, vR (some (mN M))), (0, vR (some (Z 400))), (2, vR x2), (3, vR x3), (4, vI x4), (5, vI x5), (6, vI x6), (7, vI x7), (8, vI x8), (9, vI x9), (10, vR x10)]) X dL_law_254 (by decide) rfl ?_
    refine g_iconst (v := (0 : Int32)) X dL_law_256 (by decide) ?_
    refine g_istore (lv' := [(12, vI (0 : Int32)), (11, vR (some (mN M))), (0, vR (some (Z 400))), (2, vR x2), (3, vR x3), (4, vI x4), (5, vI x5), (6, vI x6), (7, vI x7), (8, vI x8), (9, vI x9), (10, vR x10)]) X dL_law_257 (by decide) rfl ?_
    obtain ⟨w616, hw616, hz616⟩ := oI_e hf
    subst hz616
    have hf := hw616
    refine g_sub (lvsub_of _ _ [2, 3, 4, 5, 6, 7, 8, 9, 10, 11, 1, 0] rfl) ?_
    exact tl_L_law_259 X2 hr hlx hH hne hH0 _ _ _ _ _ _ _ _ _ _ _ _ _ _ _ hf hK
  · have hf := ife_f hc hf
    refine g_iconst (v := (0 : Int32)) X dL_law_208 (by decide) ?_
    refine g_istore (lv' := [(12, vI (0 : Int32)), (0, vR (some (Z 400))), (2, vR x2), (3, vR x3), (4, vI x4), (5, vI x5), (6, vI x6), (7, vI x7), (8, vI x8), (9, vI x9), (10, vR x10), (11, vI x11)]) X dL_law_209 (by decide) rfl ?_
    refine g_sub (lvsub_of _ _ [1, 2, 3, 4, 5, 6, 7, 8, 9, 10, 11, 0] rfl) ?_
    exact tl_L_law_211 X2 hr hlx hH hne hH0 _ _ _ _ _ _ _ _ _ _ _ _ _ _ _ hf hK
set_option maxHeartbeats 4000000 in
set_option maxRecDepth 100000 in
theorem tl_L_law_201 (X2 : gX p s m args meth c D cy B (gSt2 Z B H0) RL cL_law wsL_law 34) (hr : meth.sig.returnType = (some .boolean)) (hlx : l.stackTraces = false) (hH : ∀ q : Nat, q < B → s.heap[q]? = H0[q]?) (hne : ∀ x ∈ c.exceptionTable.toList, False) (hH0 : H0.size = B) {Q : State → Prop} : ∀ (M : gMem) (kc : Nat) (kn : Nat) (x2 : Option Nat) (x3 : Option Nat) (x4 : Int32) (x5 : Int32) (x6 : Int32) (x7 : Int32) (x8 : Int32) (x9 : Int32) (x10 : Option Nat) (x11 : Int32) (z : (gMem × Nat × Nat × Int32) ⊕ ((Nat ⊕ Int32) × gMem)), lp_L_law_201 Z M kc kn x2 x3 x4 x5 x6 x7 x8 x9 x10 x11 = some z → (Sum.elim (fun (q : gMem × Nat × Nat × Int32) => gGo p l e rL_law s m args below meth c D cy B H0 34 q.2.1 q.2.2.1 Q 59 [(0, vR (some (Z 400))), (2, vR x2), (3, vR x3), (4, vI x4), (5, vI x5), (6, vI x6), (7, vI q.2.2.2)] [] q.1) (fun (r : (Nat ⊕ Int32) × gMem) => Q = gMX below D cy B H0 args s 600086 7301442 (gzI r.1) r.2)) z → gGo p l e rL_law s m args below meth c D cy B H0 34 kc kn Q 201 [(0, vR (some (Z 400))), (2, vR x2), (3, vR x3), (4, vI x4), (5, vI x5), (6, vI x6), (7, vI x7), (8, vI x8), (9, vI x9), (10, vR x10), (11, vI x11)] [] M := by
  intro M kc kn x2 x3 x4 x5 x6 x7 x8 x9 x10 x11 z hf hK
  refine lp_ind (P := (fun (q : gMem × Nat × Nat × Int32) (z : (gMem × Nat × Nat × Int32) ⊕ ((Nat ⊕ Int32) × gMem)) => (Sum.elim (fun (q : gMem × Nat × Nat × Int32) => gGo p l e rL_law s m args below meth c D cy B H0 34 q.2.1 q.2.2.1 Q 59 [(0, vR (some (Z 400))), (2, vR x2), (3, vR x3), (4, vI x4), (5, vI x5), (6, vI x6), (7, vI q.2.2.2)] [] q.1) (fun (r : (Nat ⊕ Int32) × gMem) => Q = gMX below D cy B H0 args s 600086 7301442 (gzI r.1) r.2)) z → gGo p l e rL_law s m args below meth c D cy B H0 34 q.2.1 q.2.2.1 Q 201 [(0, vR (some (Z 400))), (2, vR x2), (3, vR x3), (4, vI x4), (5, vI x5), (6, vI x6), (7, vI x7), (8, vI x8), (9, vI x9), (10, vR x10), (11, vI q.2.2.2)] [] q.1)) (fun q z hq => ?_) _ _ hf hK
  intro hK
  obtain ⟨w, hw, hm⟩ := hq
  refine tb_L_law_201 X2 hr hlx hH hne hH0 _ _ _ _ _ _ _ _ _ _ _ _ _ w hw ?_
  cases w with
  | inl a => exact hm hK
  | inr b => cases hm; exact hK
set_option maxHeartbeats 4000000 in
set_option maxRecDepth 100000 in
theorem t_L_law_188 (X2 : gX p s m args meth c D cy B (gSt2 Z B H0) RL cL_law wsL_law 34) (hr : meth.sig.returnType = (some .boolean)) (hlx : l.stackTraces = false) (hH : ∀ q : Nat, q < B → s.heap[q]? = H0[q]?) (hne : ∀ x ∈ c.exceptionTable.toList, False) (hH0 : H0.size = B) {Q : State → Prop} : ∀ (M : gMem) (kc : Nat) (kn : Nat) (x2 : Option Nat) (x3 : Option Nat) (x4 : Int32) (x5 : Int32) (x6 : Int32) (x7 : Int32) (x8 : Int32) (x9 : Int32) (z : (gMem × Nat × Nat × Int32) ⊕ ((Nat ⊕ Int32) × gMem)), b_L_law_188 Z M kc kn x2 x3 x4 x5 x6 x7 x8 x9 = some z → (Sum.elim (fun (q : gMem × Nat × Nat × Int32) => gGo p l e rL_law s m args below meth c D cy B H0 34 q.2.1 q.2.2.1 Q 59 [(0, vR (some (Z 400))), (2, vR x2), (3, vR x3), (4, vI x4), (5, vI x5), (6, vI x6), (7, vI q.2.2.2)] [] q.1) (fun (r : (Nat ⊕ Int32) × gMem) => Q = gMX below D cy B H0 args s 600086 7301442 (gzI r.1) r.2)) z → gGo p l e rL_law s m args below meth c D cy B H0 34 kc kn Q 188 [(0, vR (some (Z 400))), (2, vR x2), (3, vR x3), (4, vI x4), (5, vI x5), (6, vI x6), (7, vI x7), (8, vI x8), (9, vI x9)] [] M := by
  intro M kc kn x2 x3 x4 x5 x6 x7 x8 x9 z hf hK
  unfold b_L_law_188 at hf
  have X := gX_w X2
  refine g_iload X dL_law_188 rfl ?_
  refine g_bipush (v := (10 : Int32)) X dL_law_190 (by decide) ?_
  obtain ⟨hg617, hf⟩ := ck_e hf
  obtain ⟨hg618, hf⟩ := ck_e hf
  obtain ⟨hg619, hf⟩ := ck_e hf
  refine g_mnew (N := 8) (K := 10) X (gN2w X2 _ (by decide +kernel)) k_L_law_cl212 k_L_law_acint hg617 hg618 (by decide) (by decide) ⟨hg619.1, hg619.2⟩ dL_law_192 (by decide) ?_
  obtain ⟨M620, hM620, hf⟩ := lw_e hf
  rw [← hM620]
  refine g_astore (lv' := [(10, vR (some (mN M))), (0, vR (some (Z 400))), (2, vR x2), (3, vR x3), (4, vI x4), (5, vI x5), (6, vI x6), (7, vI x7), (8, vI x8), (9, vI x9)]) X dL_law_196 (by decide) rfl ?_
  refine g_iconst (v := (0 : Int32)) X dL_law_198 (by decide) ?_
  refine g_istore (lv' := [(11, vI (0 : Int32)), (10, vR (some (mN M))), (0, vR (some (Z 400))), (2, vR x2), (3, vR x3), (4, vI x4), (5, vI x5), (6, vI x6), (7, vI x7), (8, vI x8), (9, vI x9)]) X dL_law_199 (by decide) rfl ?_
  refine g_sub (lvsub_of _ _ [2, 3, 4, 5, 6, 7, 8, 9, 10, 1, 0] rfl) ?_
  exact tl_L_law_201 X2 hr hlx hH hne hH0 _ _ _ _ _ _ _ _ _ _ _ _ _ _ hf hK
set_option maxHeartbeats 4000000 in
set_option maxRecDepth 100000 in
theorem t_L_law_186 (X2 : gX p s m args meth c D cy B (gSt2 Z B H0) RL cL_law wsL_law 34) (hr : meth.sig.returnType = (some .boolean)) (hlx : l.stackTraces = false) (hH : ∀ q : Nat, q < B → s.heap[q]? = H0[q]?) (hne : ∀ x ∈ c.exceptionTable.toList, False) (hH0 : H0.size = B) {Q : State → Prop} : ∀ (M : gMem) (kc : Nat) (kn : Nat) (z : (Nat ⊕ Int32) × gMem), b_L_law_186 Z M kc kn = some z → (fun (r : (Nat ⊕ Int32) × gMem) => Q = gMX below D cy B H0 args s 600086 7301442 (gzI r.1) r.2) z → gGo p l e rL_law s m args below meth c D cy B H0 34 kc kn Q 186 [] [] M := by
  intro M kc kn z hf hK
  unfold b_L_law_186 at hf
  have X := gX_w X2
  refine g_iconst (v := (0 : Int32)) X dL_law_186 (by decide) ?_
  obtain ⟨hg621, hf⟩ := ck_e hf
  cases hf
  refine g_eqQ hK ?_
  refine g_wide (k' := 600086) (n' := 7301442) hg621.1 hg621.2 ?_
  refine g_xret ?_
  exact g_zret X hr (gnb (Or.inl rfl)) dL_law_187
set_option maxHeartbeats 4000000 in
set_option maxRecDepth 100000 in
theorem t_L_law_183 (X2 : gX p s m args meth c D cy B (gSt2 Z B H0) RL cL_law wsL_law 34) (hr : meth.sig.returnType = (some .boolean)) (hlx : l.stackTraces = false) (hH : ∀ q : Nat, q < B → s.heap[q]? = H0[q]?) (hne : ∀ x ∈ c.exceptionTable.toList, False) (hH0 : H0.size = B) {Q : State → Prop} : ∀ (M : gMem) (kc : Nat) (kn : Nat) (x2 : Option Nat) (x3 : Option Nat) (x4 : Int32) (x5 : Int32) (x6 : Int32) (x7 : Int32) (x8 : Int32) (x9 : Int32) (s0 : Int32) (s1 : Int32) (z : (gMem × Nat × Nat × Int32) ⊕ ((Nat ⊕ Int32) × gMem)), b_L_law_183 Z M kc kn x2 x3 x4 x5 x6 x7 x8 x9 s0 s1 = some z → (Sum.elim (fun (q : gMem × Nat × Nat × Int32) => gGo p l e rL_law s m args below meth c D cy B H0 34 q.2.1 q.2.2.1 Q 59 [(0, vR (some (Z 400))), (2, vR x2), (3, vR x3), (4, vI x4), (5, vI x5), (6, vI x6), (7, vI q.2.2.2)] [] q.1) (fun (r : (Nat ⊕ Int32) × gMem) => Q = gMX below D cy B H0 args s 600086 7301442 (gzI r.1) r.2)) z → gGo p l e rL_law s m args below meth c D cy B H0 34 kc kn Q 183 [(0, vR (some (Z 400))), (2, vR x2), (3, vR x3), (4, vI x4), (5, vI x5), (6, vI x6), (7, vI x7), (8, vI x8), (9, vI x9)] [vI s1, vI s0] M := by
  intro M kc kn x2 x3 x4 x5 x6 x7 x8 x9 s0 s1 z hf hK
  unfold b_L_law_183 at hf
  have X := gX_w X2
  refine g_icmp_eq (tgt := 188) X dL_law_183 (by decide) (fun hc => ?_) (fun hc => ?_)
  · have hf := ife_t hc hf
    refine g_sub (lvsub_of _ _ [0, 1, 2, 3, 4, 5, 6, 7, 8] rfl) ?_
    exact t_L_law_188 X2 hr hlx hH hne hH0 _ _ _ _ _ _ _ _ _ _ _ _ hf hK
  · have hf := ife_f hc hf
    obtain ⟨w622, hw622, hz622⟩ := oI_e hf
    subst hz622
    have hf := hw622
    refine g_sub (lvsub_of _ _ [] rfl) ?_
    exact t_L_law_186 X2 hr hlx hH hne hH0 _ _ _ _ hf hK
set_option maxHeartbeats 4000000 in
set_option maxRecDepth 100000 in
theorem t_L_law_161 (X2 : gX p s m args meth c D cy B (gSt2 Z B H0) RL cL_law wsL_law 34) (hr : meth.sig.returnType = (some .boolean)) (hlx : l.stackTraces = false) (hH : ∀ q : Nat, q < B → s.heap[q]? = H0[q]?) (hne : ∀ x ∈ c.exceptionTable.toList, False) (hH0 : H0.size = B) {Q : State → Prop} : ∀ (M : gMem) (kc : Nat) (kn : Nat) (x2 : Option Nat) (x3 : Option Nat) (x4 : Int32) (x5 : Int32) (x6 : Int32) (x7 : Int32) (x8 : Int32) (x9 : Int32) (x11 : Int32) (s0 : Int32) (s1 : Int32) (s2 : Int32) (z : (gMem × Nat × Nat × Int32) ⊕ ((Nat ⊕ Int32) × gMem)), b_L_law_161 Z M kc kn x2 x3 x4 x5 x6 x7 x8 x9 x11 s0 s1 s2 = some z → (Sum.elim (fun (q : gMem × Nat × Nat × Int32) => gGo p l e rL_law s m args below meth c D cy B H0 34 q.2.1 q.2.2.1 Q 59 [(0, vR (some (Z 400))), (2, vR x2), (3, vR x3), (4, vI x4), (5, vI x5), (6, vI x6), (7, vI q.2.2.2)] [] q.1) (fun (r : (Nat ⊕ Int32) × gMem) => Q = gMX below D cy B H0 args s 600086 7301442 (gzI r.1) r.2)) z → gGo p l e rL_law s m args below meth c D cy B H0 34 kc kn Q 161 [(0, vR (some (Z 400))), (2, vR x2), (3, vR x3), (4, vI x4), (5, vI x5), (6, vI x6), (7, vI x7), (8, vI x8), (9, vI x9), (11, vI x11)] [vI s2, vI s1, vI s0] M := by
  intro M kc kn x2 x3 x4 x5 x6 x7 x8 x9 x11 s0 s1 s2 z hf hK
  unfold b_L_law_161 at hf
  have X := gX_w X2
  refine g_iadd X dL_law_161 ?_
  refine g_icmp_ne (tgt := 186) X dL_law_162 (by decide) (fun hc => ?_) (fun hc => ?_)
  · have hf := ife_f hc hf
    obtain ⟨w623, hw623, hz623⟩ := oI_e hf
    subst hz623
    have hf := hw623
    refine g_sub (lvsub_of _ _ [] rfl) ?_
    exact t_L_law_186 X2 hr hlx hH hne hH0 _ _ _ _ hf hK
  · have hf := ife_t hc hf
    refine g_aload_n X dL_law_165 rfl rfl ?_
    refine g_iload X dL_law_166 rfl ?_
    refine g_bipush (v := (8 : Int32)) X dL_law_168 (by decide) ?_
    obtain ⟨a625, ha625, hf⟩ := dr_e hf
    obtain ⟨hT626, hf⟩ := ck_e hf
    obtain ⟨hg627, hf⟩ := ck_e hf
    rcases bx_e hf with ⟨e624, M624, hq624, hf⟩ | ⟨r624, M624, hq624, hf⟩
    · obtain ⟨w628, hw628, hz628⟩ := oI_e hf
      subst hz628
      have hf := hw628
      cases hf
      refine g_eqQ hK ?_
      exact g_callTV (ci := 9) (b := a625) (As := [vI x9, vI (8 : Int32)]) (st := []) (M1 := M624) X2 hne (m_X11_fisher l hlx hH0 hq624) (cwV 2 X.2.2.1 gL_law_X11_fisher rfl rfl rfl (by decide +kernel) ⟨Nat.le_of_ble_eq_true rfl, Nat.le_of_ble_eq_true rfl⟩) rfl rfl ha625 hT626 (by decide) rfl (Nat.le_of_ble_eq_true rfl) dL_law_170 ⟨hg627.1, hg627.2⟩ hg627.1 hg627.2
    refine g_callXV (ci := 9) (b := a625) (As := [vI x9, vI (8 : Int32)]) (st := []) (v := some (vI r624)) (M1 := M624) X2 (m_X11_fisher l hlx hH0 hq624) (cwV 2 X.2.2.1 gL_law_X11_fisher rfl rfl rfl (by decide +kernel) ⟨Nat.le_of_ble_eq_true rfl, Nat.le_of_ble_eq_true rfl⟩) rfl rfl ha625 hT626 (by decide) rfl (Nat.le_of_ble_eq_true rfl) dL_law_170 ⟨hg627.1, hg627.2⟩ ?_
    refine g_iload X dL_law_173 rfl ?_
    refine g_if_eq (tgt := 182) X dL_law_175 (by decide) (fun hc => ?_) (fun hc => ?_)
    · have hf := ife_t hc hf
      refine g_iconst (v := (0 : Int32)) X dL_law_182 (by decide) ?_
      refine g_sub (lvsub_of _ _ [0, 1, 2, 3, 4, 5, 6, 7, 8] rfl) ?_
      exact t_L_law_183 X2 hr hlx hH hne hH0 _ _ _ _ _ _ _ _ _ _ _ _ _ _ hf hK
    · have hf := ife_f hc hf
      refine g_iconst (v := (1 : Int32)) X dL_law_178 (by decide) ?_
      refine g_goto (tgt := 183) X dL_law_179 (by decide) ?_
      refine g_sub (lvsub_of _ _ [0, 1, 2, 3, 4, 5, 6, 7, 8] rfl) ?_
      exact t_L_law_183 X2 hr hlx hH hne hH0 _ _ _ _ _ _ _ _ _ _ _ _ _ _ hf hK
set_option maxHeartbeats 4000000 in
set_option maxRecDepth 100000 in
theorem t_L_law_139 (X2 : gX p s m args meth c D cy B (gSt2 Z B H0) RL cL_law wsL_law 34) (hr : meth.sig.returnType = (some .boolean)) (hlx : l.stackTraces = false) (hH : ∀ q : Nat, q < B → s.heap[q]? = H0[q]?) (hne : ∀ x ∈ c.exceptionTable.toList, False) (hH0 : H0.size = B) {Q : State → Prop} : ∀ (M : gMem) (kc : Nat) (kn : Nat) (x2 : Option Nat) (x3 : Option Nat) (x4 : Int32) (x5 : Int32) (x6 : Int32) (x7 : Int32) (x8 : Int32) (x9 : Int32) (x10 : Int32) (s0 : Int32) (z : (gMem × Nat × Nat × Int32) ⊕ ((Nat ⊕ Int32) × gMem)), b_L_law_139 Z M kc kn x2 x3 x4 x5 x6 x7 x8 x9 x10 s0 = some z → (Sum.elim (fun (q : gMem × Nat × Nat × Int32) => gGo p l e rL_law s m args below meth c D cy B H0 34 q.2.1 q.2.2.1 Q 59 [(0, vR (some (Z 400))), (2, vR x2), (3, vR x3), (4, vI x4), (5, vI x5), (6, vI x6), (7, vI q.2.2.2)] [] q.1) (fun (r : (Nat ⊕ Int32) × gMem) => Q = gMX below D cy B H0 args s 600086 7301442 (gzI r.1) r.2)) z → gGo p l e rL_law s m args below meth c D cy B H0 34 kc kn Q 139 [(0, vR (some (Z 400))), (2, vR x2), (3, vR x3), (4, vI x4), (5, vI x5), (6, vI x6), (7, vI x7), (8, vI x8), (9, vI x9), (10, vI x10)] [vI s0] M := by
  intro M kc kn x2 x3 x4 x5 x6 x7 x8 x9 x10 s0 z hf hK
  unfold b_L_law_139 at hf
  have X := gX_w X2
  refine g_istore (lv' := [(11, vI s0), (0, vR (some (Z 400))), (2, vR x2), (3, vR x3), (4, vI x4), (5, vI x5), (6, vI x6), (7, vI x7), (8, vI x8), (9, vI x9), (10, vI x10)]) X dL_law_139 (by decide) rfl ?_
  refine g_aload_n X dL_law_141 rfl rfl ?_
  refine g_iload X dL_law_142 rfl ?_
  refine g_iload X dL_law_144 rfl ?_
  obtain ⟨a630, ha630, hf⟩ := dr_e hf
  obtain ⟨hT631, hf⟩ := ck_e hf
  obtain ⟨hg632, hf⟩ := ck_e hf
  rcases bx_e hf with ⟨e629, M629, hq629, hf⟩ | ⟨r629, M629, hq629, hf⟩
  · obtain ⟨w633, hw633, hz633⟩ := oI_e hf
    subst hz633
    have hf := hw633
    cases hf
    refine g_eqQ hK ?_
    exact g_callTV (ci := 9) (b := a630) (As := [vI x9, vI s0]) (st := []) (M1 := M629) X2 hne (m_X11_cheat l hlx hH0 hq629) (cwV 2 X.2.2.1 gL_law_X11_cheat rfl rfl rfl (by decide +kernel) ⟨Nat.le_of_ble_eq_true rfl, Nat.le_of_ble_eq_true rfl⟩) rfl rfl ha630 hT631 (by decide) rfl (Nat.le_of_ble_eq_true rfl) dL_law_146 ⟨hg632.1, hg632.2⟩ hg632.1 hg632.2
  refine g_callXV (ci := 9) (b := a630) (As := [vI x9, vI s0]) (st := []) (v := some (vI r629)) (M1 := M629) X2 (m_X11_cheat l hlx hH0 hq629) (cwV 2 X.2.2.1 gL_law_X11_cheat rfl rfl rfl (by decide +kernel) ⟨Nat.le_of_ble_eq_true rfl, Nat.le_of_ble_eq_true rfl⟩) rfl rfl ha630 hT631 (by decide) rfl (Nat.le_of_ble_eq_true rfl) dL_law_146 ⟨hg632.1, hg632.2⟩ ?_
  refine g_iload X dL_law_149 rfl ?_
  refine g_iload X dL_law_151 rfl ?_
  refine g_if_eq (tgt := 160) X dL_law_153 (by decide) (fun hc => ?_) (fun hc => ?_)
  · have hf := ife_t hc hf
    refine g_iconst (v := (0 : Int32)) X dL_law_160 (by decide) ?_
    refine g_sub (lvsub_of _ _ [1, 2, 3, 4, 5, 6, 7, 8, 9, 0] rfl) ?_
    exact t_L_law_161 X2 hr hlx hH hne hH0 _ _ _ _ _ _ _ _ _ _ _ _ _ _ _ _ hf hK
  · have hf := ife_f hc hf
    refine g_iconst (v := (1 : Int32)) X dL_law_156 (by decide) ?_
    refine g_goto (tgt := 161) X dL_law_157 (by decide) ?_
    refine g_sub (lvsub_of _ _ [1, 2, 3, 4, 5, 6, 7, 8, 9, 0] rfl) ?_
    exact t_L_law_161 X2 hr hlx hH hne hH0 _ _ _ _ _ _ _ _ _ _ _ _ _ _ _ _ hf hK
set_option maxHeartbeats 4000000 in
set_option maxRecDepth 100000 in
theorem tb_L_law_59 (X2 : gX p s m args meth c D cy B (gSt2 Z B H0) RL cL_law wsL_law 34) (hr : meth.sig.returnType = (some .boolean)) (hlx : l.stackTraces = false) (hH : ∀ q : Nat, q < B → s.heap[q]? = H0[q]?) (hne : ∀ x ∈ c.exceptionTable.toList, False) (hH0 : H0.size = B) {Q : State → Prop} : ∀ (M : gMem) (kc : Nat) (kn : Nat) (x2 : Option Nat) (x3 : Option Nat) (x4 : Int32) (x5 : Int32) (x6 : Int32) (x7 : Int32) (z : (gMem × Nat × Nat × Int32) ⊕ ((Nat ⊕ Int32) × gMem)), bb_L_law_59 Z M kc kn x2 x3 x4 x5 x6 x7 = some z → (Sum.elim (fun (q : gMem × Nat × Nat × Int32) => gGo p l e rL_law s m args below meth c D cy B H0 34 q.2.1 q.2.2.1 Q 59 [(0, vR (some (Z 400))), (2, vR x2), (3, vR x3), (4, vI x4), (5, vI x5), (6, vI x6), (7, vI q.2.2.2)] [] q.1) (fun (r : (Nat ⊕ Int32) × gMem) => Q = gMX below D cy B H0 args s 600086 7301442 (gzI r.1) r.2)) z → gGo p l e rL_law s m args below meth c D cy B H0 34 kc kn Q 59 [(0, vR (some (Z 400))), (2, vR x2), (3, vR x3), (4, vI x4), (5, vI x5), (6, vI x6), (7, vI x7)] [] M := by
  intro M kc kn x2 x3 x4 x5 x6 x7 z hf hK
  unfold bb_L_law_59 at hf
  have X := gX_w X2
  refine g_iload X dL_law_59 rfl ?_
  refine g_bipush (v := (30 : Int32)) X dL_law_61 (by decide) ?_
  refine g_icmp_ge (tgt := 1594) X dL_law_63 (by decide) (fun hc => ?_) (fun hc => ?_)
  · have hf := ife_t hc hf
    refine g_iconst (v := (1 : Int32)) X dL_law_1594 (by decide) ?_
    obtain ⟨hg634, hf⟩ := ck_e hf
    obtain ⟨w635, hw635, hz635⟩ := oI_e hf
    subst hz635
    have hf := hw635
    cases hf
    refine g_eqQ hK ?_
    refine g_wide (k' := 600086) (n' := 7301442) hg634.1 hg634.2 ?_
    refine g_xret ?_
    exact g_zret X hr (gnb (Or.inr rfl)) dL_law_1595
  · have hf := ife_f hc hf
    refine g_aload_n X dL_law_66 rfl rfl ?_
    refine g_iload X dL_law_67 rfl ?_
    refine g_bipush (v := (16 : Int32)) X dL_law_69 (by decide) ?_
    refine g_irem X dL_law_71 (by decide) ?_
    obtain ⟨hg637, hf⟩ := ck_e hf
    obtain ⟨r636, M636, hq636, hf⟩ := bd_e hf
    refine g_callS (As := [vR (some (Z 400)), vI (x7 - x7 / (16 : Int32) * (16 : Int32))]) (st := []) (v := some (vI r636)) (M1 := M636) X2 (m_L_cell l hq636) (va_cwS 2 X.2.2.1 gL_law_L_cell rfl rfl rfl (by decide +kernel) ⟨Nat.le_of_ble_eq_true rfl, Nat.le_of_ble_eq_true rfl⟩) rfl rfl (Nat.le_of_ble_eq_true rfl) dL_law_72 ⟨hg637.1, hg637.2⟩ ?_
    refine g_iload X dL_law_75 rfl ?_
    refine g_bipush (v := (16 : Int32)) X dL_law_77 (by decide) ?_
    refine g_idiv X dL_law_79 (by decide) ?_
    refine g_bipush (v := (6 : Int32)) X dL_law_80 (by decide) ?_
    refine g_imul X dL_law_82 ?_
    refine g_ishr X dL_law_83 ?_
    refine g_istore (lv' := [(8, vI (r636 >>> (((x7 / (16 : Int32)) * (6 : Int32)) &&& 31))), (0, vR (some (Z 400))), (2, vR x2), (3, vR x3), (4, vI x4), (5, vI x5), (6, vI x6), (7, vI x7)]) X dL_law_84 (by decide) rfl ?_
    refine g_iload X dL_law_86 rfl ?_
    refine g_iconst (v := (3 : Int32)) X dL_law_88 (by decide) ?_
    refine g_ishr X dL_law_89 ?_
    refine g_iload X dL_law_90 rfl ?_
    obtain ⟨hg639, hf⟩ := ck_e hf
    obtain ⟨r638, M638, hq638, hf⟩ := bd_e hf
    refine g_callS (As := [vI ((r636 >>> (((x7 / (16 : Int32)) * (6 : Int32)) &&& 31)) >>> ((3 : Int32) &&& 31)), vI x4]) (st := []) (v := some (vI r638)) (M1 := M638) X (m_L_below l hq638) (va_cwS 2 X.2.2.1 gL_law_L_below rfl rfl rfl (by decide +kernel) ⟨Nat.le_of_ble_eq_true rfl, Nat.le_of_ble_eq_true rfl⟩) rfl rfl (Nat.le_of_ble_eq_true rfl) dL_law_92 ⟨hg639.1, hg639.2⟩ ?_
    refine g_istore (lv' := [(9, vI r638), (8, vI (r636 >>> (((x7 / (16 : Int32)) * (6 : Int32)) &&& 31))), (0, vR (some (Z 400))), (2, vR x2), (3, vR x3), (4, vI x4), (5, vI x5), (6, vI x6), (7, vI x7)]) X dL_law_95 (by decide) rfl ?_
    refine g_iload X dL_law_97 rfl ?_
    refine g_iconst (v := (4 : Int32)) X dL_law_99 (by decide) ?_
    obtain ⟨hg641, hf⟩ := ck_e hf
    obtain ⟨r640, M640, hq640, hf⟩ := bd_e hf
    refine g_callS (As := [vI (r636 >>> (((x7 / (16 : Int32)) * (6 : Int32)) &&& 31)), vI (4 : Int32)]) (st := []) (v := some (vI r640)) (M1 := M640) X (m_L_below l hq640) (va_cwS 2 X.2.2.1 gL_law_L_below rfl rfl rfl (by decide +kernel) ⟨Nat.le_of_ble_eq_true rfl, Nat.le_of_ble_eq_true rfl⟩) rfl rfl (Nat.le_of_ble_eq_true rfl) dL_law_100 ⟨hg641.1, hg641.2⟩ ?_
    refine g_if_ne (tgt := 188) X dL_law_103 (by decide) (fun hc => ?_) (fun hc => ?_)
    · have hf := ife_f hc hf
      refine g_sub (lvsub_of _ _ [2, 3, 4, 5, 6, 7, 8, 1, 0] rfl) ?_
      exact t_L_law_188 X2 hr hlx hH hne hH0 _ _ _ _ _ _ _ _ _ _ _ _ hf hK
    · have hf := ife_t hc hf
      refine g_aload_n X dL_law_106 rfl rfl ?_
      refine g_bipush (v := (8 : Int32)) X dL_law_107 (by decide) ?_
      obtain ⟨a643, ha643, hf⟩ := dr_e hf
      obtain ⟨hT644, hf⟩ := ck_e hf
      obtain ⟨hg645, hf⟩ := ck_e hf
      rcases bx_e hf with ⟨e642, M642, hq642, hf⟩ | ⟨r642, M642, hq642, hf⟩
      · obtain ⟨w646, hw646, hz646⟩ := oI_e hf
        subst hz646
        have hf := hw646
        cases hf
        refine g_eqQ hK ?_
        exact g_callTV (ci := 9) (b := a643) (As := [vI (8 : Int32)]) (st := []) (M1 := M642) X2 hne (m_X11_count l hlx hH0 hq642) (cwV 1 X.2.2.1 gL_law_X11_count rfl rfl rfl (by decide +kernel) ⟨Nat.le_of_ble_eq_true rfl, Nat.le_of_ble_eq_true rfl⟩) rfl rfl ha643 hT644 (by decide) rfl (Nat.le_of_ble_eq_true rfl) dL_law_109 ⟨hg645.1, hg645.2⟩ hg645.1 hg645.2
      refine g_callXV (ci := 9) (b := a643) (As := [vI (8 : Int32)]) (st := []) (v := some (vI r642)) (M1 := M642) X2 (m_X11_count l hlx hH0 hq642) (cwV 1 X.2.2.1 gL_law_X11_count rfl rfl rfl (by decide +kernel) ⟨Nat.le_of_ble_eq_true rfl, Nat.le_of_ble_eq_true rfl⟩) rfl rfl ha643 hT644 (by decide) rfl (Nat.le_of_ble_eq_true rfl) dL_law_109 ⟨hg645.1, hg645.2⟩ ?_
      refine g_aload_n X dL_law_112 rfl rfl ?_
      refine g_iload X dL_law_113 rfl ?_
      refine g_bipush (v := (8 : Int32)) X dL_law_115 (by decide) ?_
      obtain ⟨hT648, hf⟩ := ck_e hf
      obtain ⟨hg649, hf⟩ := ck_e hf
      rcases bx_e hf with ⟨e647, M647, hq647, hf⟩ | ⟨r647, M647, hq647, hf⟩
      · obtain ⟨w650, hw650, hz650⟩ := oI_e hf
        subst hz650
        have hf := hw650
        cases hf
        refine g_eqQ hK ?_
        exact g_callTV (ci := 9) (b := a643) (As := [vI r638, vI (8 : Int32)]) (st := [vI r642]) (M1 := M647) X2 hne (m_X11_fisher l hlx hH0 hq647) (cwV 2 X.2.2.1 gL_law_X11_fisher rfl rfl rfl (by decide +kernel) ⟨Nat.le_of_ble_eq_true rfl, Nat.le_of_ble_eq_true rfl⟩) rfl rfl ha643 hT648 (by decide) rfl (Nat.le_of_ble_eq_true rfl) dL_law_117 ⟨hg649.1, hg649.2⟩ hg649.1 hg649.2
      refine g_callXV (ci := 9) (b := a643) (As := [vI r638, vI (8 : Int32)]) (st := [vI r642]) (v := some (vI r647)) (M1 := M647) X2 (m_X11_fisher l hlx hH0 hq647) (cwV 2 X.2.2.1 gL_law_X11_fisher rfl rfl rfl (by decide +kernel) ⟨Nat.le_of_ble_eq_true rfl, Nat.le_of_ble_eq_true rfl⟩) rfl rfl ha643 hT648 (by decide) rfl (Nat.le_of_ble_eq_true rfl) dL_law_117 ⟨hg649.1, hg649.2⟩ ?_
      refine g_isub X dL_law_120 ?_
      refine g_istore (lv' := [(10, vI (r642 - r647)), (9, vI r638), (8, vI (r636 >>> (((x7 / (16 : Int32)) * (6 : Int32)) &&& 31))), (0, vR (some (Z 400))), (2, vR x2), (3, vR x3), (4, vI x4), (5, vI x5), (6, vI x6), (7, vI x7)]) X dL_law_121 (by decide) rfl ?_
      refine g_iload X dL_law_123 rfl ?_
      refine g_iconst (v := (5 : Int32)) X dL_law_125 (by decide) ?_
      refine g_ishr X dL_law_126 ?_
      refine g_iconst (v := (2 : Int32)) X dL_law_127 (by decide) ?_
      obtain ⟨hg652, hf⟩ := ck_e hf
      obtain ⟨r651, M651, hq651, hf⟩ := bd_e hf
      refine g_callS (As := [vI ((r636 >>> (((x7 / (16 : Int32)) * (6 : Int32)) &&& 31)) >>> ((5 : Int32) &&& 31)), vI (2 : Int32)]) (st := []) (v := some (vI r651)) (M1 := M651) X (m_L_below l hq651) (va_cwS 2 X.2.2.1 gL_law_L_below rfl rfl rfl (by decide +kernel) ⟨Nat.le_of_ble_eq_true rfl, Nat.le_of_ble_eq_true rfl⟩) rfl rfl (Nat.le_of_ble_eq_true rfl) dL_law_128 ⟨hg652.1, hg652.2⟩ ?_
      refine g_if_ne (tgt := 138) X dL_law_131 (by decide) (fun hc => ?_) (fun hc => ?_)
      · have hf := ife_f hc hf
        refine g_iconst (v := (0 : Int32)) X dL_law_138 (by decide) ?_
        refine g_sub (lvsub_of _ _ [3, 4, 5, 6, 7, 8, 9, 2, 1, 0] rfl) ?_
        exact t_L_law_139 X2 hr hlx hH hne hH0 _ _ _ _ _ _ _ _ _ _ _ _ _ _ hf hK
      · have hf := ife_t hc hf
        refine g_iconst (v := (1 : Int32)) X dL_law_134 (by decide) ?_
        refine g_goto (tgt := 139) X dL_law_135 (by decide) ?_
        refine g_sub (lvsub_of _ _ [3, 4, 5, 6, 7, 8, 9, 2, 1, 0] rfl) ?_
        exact t_L_law_139 X2 hr hlx hH hne hH0 _ _ _ _ _ _ _ _ _ _ _ _ _ _ hf hK
set_option maxHeartbeats 4000000 in
set_option maxRecDepth 100000 in
theorem tl_L_law_59 (X2 : gX p s m args meth c D cy B (gSt2 Z B H0) RL cL_law wsL_law 34) (hr : meth.sig.returnType = (some .boolean)) (hlx : l.stackTraces = false) (hH : ∀ q : Nat, q < B → s.heap[q]? = H0[q]?) (hne : ∀ x ∈ c.exceptionTable.toList, False) (hH0 : H0.size = B) {Q : State → Prop} : ∀ (M : gMem) (kc : Nat) (kn : Nat) (x2 : Option Nat) (x3 : Option Nat) (x4 : Int32) (x5 : Int32) (x6 : Int32) (x7 : Int32) (z : (Nat ⊕ Int32) × gMem), lp_L_law_59 Z M kc kn x2 x3 x4 x5 x6 x7 = some z → (fun (r : (Nat ⊕ Int32) × gMem) => Q = gMX below D cy B H0 args s 600086 7301442 (gzI r.1) r.2) z → gGo p l e rL_law s m args below meth c D cy B H0 34 kc kn Q 59 [(0, vR (some (Z 400))), (2, vR x2), (3, vR x3), (4, vI x4), (5, vI x5), (6, vI x6), (7, vI x7)] [] M := by
  intro M kc kn x2 x3 x4 x5 x6 x7 z hf hK
  refine lp_ind (P := (fun (q : gMem × Nat × Nat × Int32) (z : (Nat ⊕ Int32) × gMem) => (fun (r : (Nat ⊕ Int32) × gMem) => Q = gMX below D cy B H0 args s 600086 7301442 (gzI r.1) r.2) z → gGo p l e rL_law s m args below meth c D cy B H0 34 q.2.1 q.2.2.1 Q 59 [(0, vR (some (Z 400))), (2, vR x2), (3, vR x3), (4, vI x4), (5, vI x5), (6, vI x6), (7, vI q.2.2.2)] [] q.1)) (fun q z hq => ?_) _ _ hf hK
  intro hK
  obtain ⟨w, hw, hm⟩ := hq
  refine tb_L_law_59 X2 hr hlx hH hne hH0 _ _ _ _ _ _ _ _ _ w hw ?_
  cases w with
  | inl a => exact hm hK
  | inr b => cases hm; exact hK
set_option maxHeartbeats 4000000 in
set_option maxRecDepth 100000 in
theorem t_L_law_0 (X2 : gX p s m args meth c D cy B (gSt2 Z B H0) RL cL_law wsL_law 34) (hr : meth.sig.returnType = (some .boolean)) (hlx : l.stackTraces = false) (hH : ∀ q : Nat, q < B → s.heap[q]? = H0[q]?) (hne : ∀ x ∈ c.exceptionTable.toList, False) (hH0 : H0.size = B) {Q : State → Prop} : ∀ (M : gMem) (kc : Nat) (kn : Nat) (z : (Nat ⊕ Int32) × gMem), b_L_law_0 Z M kc kn = some z → (fun (r : (Nat ⊕ Int32) × gMem) => Q = gMX below D cy B H0 args s 600086 7301442 (gzI r.1) r.2) z → gGo p l e rL_law s m args below meth c D cy B H0 34 kc kn Q 0 [(0, vR (some (Z 400)))] [] M := by
  intro M kc kn z hf hK
  unfold b_L_law_0 at hf
  have X := gX_w X2
  obtain ⟨hg653, hf⟩ := ck_e hf
  refine g_new (ci := 12) X cdJ4 i_L_law_J4 k_L_law_cl32 k_L_law_inJ4 k_L_law_iiJ4 (by intro i hi; rcases (show i = 0 ∨ i = 1 ∨ i = 2 ∨ i = 3 by omega) with rfl | rfl | rfl | rfl <;> rfl) ⟨hg653.1, hg653.2⟩ dL_law_0 ?_
  obtain ⟨M654, hM654, hf⟩ := lw_e hf
  rw [← hM654]
  refine g_dup X dL_law_3 rfl ?_
  obtain ⟨hg656, hf⟩ := ck_e hf
  obtain ⟨r655, M655, hq655, hf⟩ := bd_e hf
  refine g_callI (b := (mN M)) (As := []) (st := [vR (some (mN M))]) (M1 := M655) X (m_J4_init_da8c8 l hq655) (cwI 0 X.2.2.1 gL_law_J4_init_da8c8 rfl rfl rfl (X.2.2.1 _ k_L_law_iiJ4) (X.2.2.1 _ k_L_law_ml34) (X.2.2.1 _ k_L_law_imJ4_init_da8c8) rfl (by decide +kernel) ⟨Nat.le_of_ble_eq_true rfl, Nat.le_of_ble_eq_true rfl⟩) rfl rfl rfl (Nat.le_of_ble_eq_true rfl) dL_law_4 ⟨hg656.1, hg656.2⟩ ?_
  refine g_astore_n (lv' := [(1, vR (some (mN M))), (0, vR (some (Z 400)))]) X dL_law_7 rfl (by decide) rfl ?_
  refine g_aload_n X dL_law_8 rfl rfl ?_
  refine g_aload_n X dL_law_9 rfl rfl ?_
  obtain ⟨hg658, hf⟩ := ck_e hf
  obtain ⟨r657, M657, hq657, hf⟩ := bd_e hf
  refine g_callS (As := [vR (some (Z 400)), vR (some (mN M))]) (st := []) (v := some (vR r657)) (M1 := M657) X2 (m_L_shore l hq657) (va_cwS 2 X.2.2.1 gL_law_L_shore rfl rfl rfl (by decide +kernel) ⟨Nat.le_of_ble_eq_true rfl, Nat.le_of_ble_eq_true rfl⟩) rfl rfl (Nat.le_of_ble_eq_true rfl) dL_law_10 ⟨hg658.1, hg658.2⟩ ?_
  refine g_astore_n (lv' := [(2, vR r657), (1, vR (some (mN M))), (0, vR (some (Z 400)))]) X dL_law_13 rfl (by decide) rfl ?_
  obtain ⟨hg659, hf⟩ := ck_e hf
  refine g_new (ci := 9) X cdX11 i_L_law_X11 k_L_law_cl10 k_L_law_inX11 k_L_law_iiX11 (by intro i hi; rcases (show i = 0 ∨ i = 1 ∨ i = 2 ∨ i = 3 by omega) with rfl | rfl | rfl | rfl <;> rfl) ⟨hg659.1, hg659.2⟩ dL_law_14 ?_
  obtain ⟨M660, hM660, hf⟩ := lw_e hf
  rw [← hM660]
  refine g_dup X dL_law_17 rfl ?_
  obtain ⟨hg662, hf⟩ := ck_e hf
  obtain ⟨r661, M661, hq661, hf⟩ := bd_e hf
  refine g_callI (b := (mN M657)) (As := []) (st := [vR (some (mN M657))]) (M1 := M661) X2 (m_X11_init l hq661) (cwI 0 X.2.2.1 gL_law_X11_init rfl rfl rfl (X.2.2.1 _ k_L_law_iiX11) (X.2.2.1 _ k_L_law_ml198) (X.2.2.1 _ k_L_law_imX11_init) rfl (by decide +kernel) ⟨Nat.le_of_ble_eq_true rfl, Nat.le_of_ble_eq_true rfl⟩) rfl rfl rfl (Nat.le_of_ble_eq_true rfl) dL_law_18 ⟨hg662.1, hg662.2⟩ ?_
  refine g_astore_n (lv' := [(3, vR (some (mN M657))), (2, vR r657), (1, vR (some (mN M))), (0, vR (some (Z 400)))]) X dL_law_21 rfl (by decide) rfl ?_
  refine g_aload_n X dL_law_22 rfl rfl ?_
  refine g_aload_n X dL_law_23 rfl rfl ?_
  obtain ⟨hT664, hf⟩ := ck_e hf
  obtain ⟨hg665, hf⟩ := ck_e hf
  obtain ⟨r663, M663, hq663, hf⟩ := bd_e hf
  refine g_callV (ci := 12) (b := (mN M)) (As := []) (st := [vR (some (mN M657))]) (v := some (vR r663)) (M1 := M663) X2 (m_J4_toString_0e30d l hq663) (cwV 0 X.2.2.1 gL_law_J4_toString_0e30d rfl rfl rfl (by decide +kernel) ⟨Nat.le_of_ble_eq_true rfl, Nat.le_of_ble_eq_true rfl⟩) rfl rfl rfl hT664 (by decide) rfl (Nat.le_of_ble_eq_true rfl) dL_law_24 ⟨hg665.1, hg665.2⟩ ?_
  obtain ⟨hg667, hf⟩ := ck_e hf
  rcases bx_e hf with ⟨e666, M666, hq666, hf⟩ | ⟨r666, M666, hq666, hf⟩
  · cases hf
    refine g_eqQ hK ?_
    exact g_callTS (As := [vR (some (mN M657)), vR r663]) (st := []) (M1 := M666) X2 hne (m_L_taught l hlx hH0 hq666) (va_cwS 2 X.2.2.1 gL_law_L_taught rfl rfl rfl (by decide +kernel) ⟨Nat.le_of_ble_eq_true rfl, Nat.le_of_ble_eq_true rfl⟩) rfl rfl (Nat.le_of_ble_eq_true rfl) dL_law_27 ⟨hg667.1, hg667.2⟩ hg667.1 hg667.2
  refine g_callXS (As := [vR (some (mN M657)), vR r663]) (st := []) (v := some (vI r666)) (M1 := M666) X2 (m_L_taught l hlx hH0 hq666) (va_cwS 2 X.2.2.1 gL_law_L_taught rfl rfl rfl (by decide +kernel) ⟨Nat.le_of_ble_eq_true rfl, Nat.le_of_ble_eq_true rfl⟩) rfl rfl (Nat.le_of_ble_eq_true rfl) dL_law_27 ⟨hg667.1, hg667.2⟩ ?_
  refine g_if_eq (tgt := 35) X dL_law_30 (by decide) (fun hc => ?_) (fun hc => ?_)
  · have hf := ife_t hc hf
    refine g_aload_n X dL_law_35 rfl rfl ?_
    refine g_iconst (v := (2 : Int32)) X dL_law_36 (by decide) ?_
    obtain ⟨hT669, hf⟩ := ck_e hf
    obtain ⟨hg670, hf⟩ := ck_e hf
    rcases bx_e hf with ⟨e668, M668, hq668, hf⟩ | ⟨r668, M668, hq668, hf⟩
    · cases hf
      refine g_eqQ hK ?_
      exact g_callTV (ci := 9) (b := (mN M657)) (As := [vI (2 : Int32)]) (st := []) (M1 := M668) X2 hne (m_X11_count l hlx hH0 hq668) (cwV 1 X.2.2.1 gL_law_X11_count rfl rfl rfl (by decide +kernel) ⟨Nat.le_of_ble_eq_true rfl, Nat.le_of_ble_eq_true rfl⟩) rfl rfl rfl hT669 (by decide) rfl (Nat.le_of_ble_eq_true rfl) dL_law_37 ⟨hg670.1, hg670.2⟩ hg670.1 hg670.2
    refine g_callXV (ci := 9) (b := (mN M657)) (As := [vI (2 : Int32)]) (st := []) (v := some (vI r668)) (M1 := M668) X2 (m_X11_count l hlx hH0 hq668) (cwV 1 X.2.2.1 gL_law_X11_count rfl rfl rfl (by decide +kernel) ⟨Nat.le_of_ble_eq_true rfl, Nat.le_of_ble_eq_true rfl⟩) rfl rfl rfl hT669 (by decide) rfl (Nat.le_of_ble_eq_true rfl) dL_law_37 ⟨hg670.1, hg670.2⟩ ?_
    refine g_istore (lv' := [(4, vI r668), (3, vR (some (mN M657))), (2, vR r657), (1, vR (some (mN M))), (0, vR (some (Z 400)))]) X dL_law_40 (by decide) rfl ?_
    refine g_aload_n X dL_law_42 rfl rfl ?_
    refine g_iconst (v := (1 : Int32)) X dL_law_43 (by decide) ?_
    obtain ⟨hT672, hf⟩ := ck_e hf
    obtain ⟨hg673, hf⟩ := ck_e hf
    rcases bx_e hf with ⟨e671, M671, hq671, hf⟩ | ⟨r671, M671, hq671, hf⟩
    · cases hf
      refine g_eqQ hK ?_
      exact g_callTV (ci := 9) (b := (mN M657)) (As := [vI (1 : Int32)]) (st := []) (M1 := M671) X2 hne (m_X11_count l hlx hH0 hq671) (cwV 1 X.2.2.1 gL_law_X11_count rfl rfl rfl (by decide +kernel) ⟨Nat.le_of_ble_eq_true rfl, Nat.le_of_ble_eq_true rfl⟩) rfl rfl rfl hT672 (by decide) rfl (Nat.le_of_ble_eq_true rfl) dL_law_44 ⟨hg673.1, hg673.2⟩ hg673.1 hg673.2
    refine g_callXV (ci := 9) (b := (mN M657)) (As := [vI (1 : Int32)]) (st := []) (v := some (vI r671)) (M1 := M671) X2 (m_X11_count l hlx hH0 hq671) (cwV 1 X.2.2.1 gL_law_X11_count rfl rfl rfl (by decide +kernel) ⟨Nat.le_of_ble_eq_true rfl, Nat.le_of_ble_eq_true rfl⟩) rfl rfl rfl hT672 (by decide) rfl (Nat.le_of_ble_eq_true rfl) dL_law_44 ⟨hg673.1, hg673.2⟩ ?_
    refine g_istore (lv' := [(5, vI r671), (4, vI r668), (3, vR (some (mN M657))), (2, vR r657), (1, vR (some (mN M))), (0, vR (some (Z 400)))]) X dL_law_47 (by decide) rfl ?_
    refine g_aload_n X dL_law_49 rfl rfl ?_
    refine g_iconst (v := (4 : Int32)) X dL_law_50 (by decide) ?_
    obtain ⟨hT675, hf⟩ := ck_e hf
    obtain ⟨hg676, hf⟩ := ck_e hf
    rcases bx_e hf with ⟨e674, M674, hq674, hf⟩ | ⟨r674, M674, hq674, hf⟩
    · cases hf
      refine g_eqQ hK ?_
      exact g_callTV (ci := 9) (b := (mN M657)) (As := [vI (4 : Int32)]) (st := []) (M1 := M674) X2 hne (m_X11_count l hlx hH0 hq674) (cwV 1 X.2.2.1 gL_law_X11_count rfl rfl rfl (by decide +kernel) ⟨Nat.le_of_ble_eq_true rfl, Nat.le_of_ble_eq_true rfl⟩) rfl rfl rfl hT675 (by decide) rfl (Nat.le_of_ble_eq_true rfl) dL_law_51 ⟨hg676.1, hg676.2⟩ hg676.1 hg676.2
    refine g_callXV (ci := 9) (b := (mN M657)) (As := [vI (4 : Int32)]) (st := []) (v := some (vI r674)) (M1 := M674) X2 (m_X11_count l hlx hH0 hq674) (cwV 1 X.2.2.1 gL_law_X11_count rfl rfl rfl (by decide +kernel) ⟨Nat.le_of_ble_eq_true rfl, Nat.le_of_ble_eq_true rfl⟩) rfl rfl rfl hT675 (by decide) rfl (Nat.le_of_ble_eq_true rfl) dL_law_51 ⟨hg676.1, hg676.2⟩ ?_
    refine g_istore (lv' := [(6, vI r674), (5, vI r671), (4, vI r668), (3, vR (some (mN M657))), (2, vR r657), (1, vR (some (mN M))), (0, vR (some (Z 400)))]) X dL_law_54 (by decide) rfl ?_
    refine g_iconst (v := (0 : Int32)) X dL_law_56 (by decide) ?_
    refine g_istore (lv' := [(7, vI (0 : Int32)), (6, vI r674), (5, vI r671), (4, vI r668), (3, vR (some (mN M657))), (2, vR r657), (1, vR (some (mN M))), (0, vR (some (Z 400)))]) X dL_law_57 (by decide) rfl ?_
    refine g_sub (lvsub_of _ _ [7, 5, 4, 3, 2, 1, 0] rfl) ?_
    exact tl_L_law_59 X2 hr hlx hH hne hH0 _ _ _ _ _ _ _ _ _ _ hf hK
  · have hf := ife_f hc hf
    refine g_iconst (v := (0 : Int32)) X dL_law_33 (by decide) ?_
    obtain ⟨hg677, hf⟩ := ck_e hf
    cases hf
    refine g_eqQ hK ?_
    refine g_wide (k' := 600086) (n' := 7301442) hg677.1 hg677.2 ?_
    refine g_xret ?_
    exact g_zret X hr (gnb (Or.inl rfl)) dL_law_34
end
